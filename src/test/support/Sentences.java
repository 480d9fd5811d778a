import java.io.IOException;
import java.nio.file.Files;
import java.nio.file.Path;
import java.util.ArrayList;
import java.util.Arrays;
import java.util.LinkedHashMap;
import java.util.List;
import java.util.Map;
import java.util.function.IntToLongFunction;

/** Tests bound to sentences of the document: each names the words that it holds the class to. */
abstract class Sentences extends Answers {
    private static final Path DOCUMENT = Path.of("../shared/DOC.md");
    private static final Map<String, String> SECTIONS = new LinkedHashMap<>();
    private static final Map<String, boolean[]> TESTED = new LinkedHashMap<>();

    /** The sections by their heads, with one blank between words and without what only sets them. */
    static void open() throws IOException {
        if (!Files.exists(DOCUMENT)) {
            System.out.println(DOCUMENT + " is not there, so its words are not held against the tests");
            return;
        }
        for (String part : Files.readString(DOCUMENT).split("(?m)^## ")) {
            String head = part.lines().findFirst().orElse("").replaceAll(":.*", "");
            String text = part.substring(part.indexOf('\n') + 1);
            text = text.replaceAll("```\\w*", " ").replaceAll("(?s)Ahead of the calls.*", " ");
            text = text.replaceAll("={8} \\d", " ").replaceAll("(?m)^`[^`]*`: ", "").replaceAll("\\s+", " ");
            SECTIONS.put(head, text);
            TESTED.put(head, new boolean[text.length()]);
        }
    }

    static void inUse(String words, Runnable test) {
        in("What it is", words, test);
    }

    static void inFace(String words, Runnable test) {
        in("The public face", words, test);
    }

    static void inTerms(String words, Runnable test) {
        in("Terms", words, test);
    }

    static void inPromise(int number, String words, Runnable test) {
        in("Promise " + number, words, test);
    }

    private static void in(String head, String words, Runnable test) {
        at(head + ", \"" + words + "\"");
        markTested(head, words);
        int before = answersSoFar();
        test.run();
        if (answersSoFar() == before) {
            fault("no answer was looked at");
        }
    }

    private static void markTested(String head, String words) {
        if (SECTIONS.isEmpty()) {
            return;
        }
        String text = SECTIONS.getOrDefault(head, "");
        int found = text.indexOf(words);
        if (found < 0) {
            fault("the document does not say so there");
        }
        for (; found >= 0; found = text.indexOf(words, found + 1)) {
            Arrays.fill(TESTED.get(head), found, found + words.length(), true);
        }
    }

    /** No word of the terms and of the promises is left without a test. */
    static void close() {
        for (String head : SECTIONS.keySet()) {
            if (head.equals("Terms") || head.startsWith("Promise ")) {
                at(head);
                for (String words : untested(head).split("\\|")) {
                    if (words.matches(".*\\w.*")) {
                        fault("no test holds the class to \"" + words.trim() + "\"");
                    }
                }
            }
        }
        if (!SECTIONS.isEmpty()) {
            at("the document");
            due("how many promises", SECTIONS.keySet().stream().filter(head -> head.startsWith("Promise ")).count(), 38);
        }
        end();
    }

    private static String untested(String head) {
        StringBuilder left = new StringBuilder();
        String text = SECTIONS.get(head);
        for (int i = 0; i < text.length(); i++) {
            left.append(TESTED.get(head)[i] ? '|' : text.charAt(i));
        }
        return left.toString();
    }

    /** The numbers beside a range, and the farthest ones, are BAD. */
    static void badBeside(LidForEach x, int low, int high, String call, IntToLongFunction it) {
        badBeside(x, low, high, LidForEach.BAD, call, it);
    }

    static void badBeside(LidForEach x, int low, int high, long want, String call, IntToLongFunction it) {
        for (int w : new int[] {low - 1, high + 1, MIN, MAX}) {
            badAs(x, call + " with " + w, () -> it.applyAsLong(w), want);
        }
    }

    static void row(String call, IntToLongFunction it, int... want) {
        for (int i = 0; i < want.length; i++) {
            due(call + "(" + i + ")", it.applyAsLong(i), want[i]);
        }
    }

    static LidForEach likeBoxes(int n, int form, int size, int holds) {
        LidForEach x = new LidForEach();
        for (int i = 0; i < n; i++) {
            x.box(form, size, holds);
        }
        return x;
    }

    static LidForEach withLikeLids(LidForEach x, int n, int kind, int form, int size) {
        for (int i = 0; i < n; i++) {
            x.lid(kind, form, size);
        }
        return x;
    }

    /** All that can be asked of a cupboard, but for what sets THE FRACTION. */
    static List<Integer> allAnswers(LidForEach x) {
        List<Integer> all = new ArrayList<>();
        all.addAll(List.of(x.lacking(), x.much(), x.spare(), x.wrong(), x.labels(0, 0), x.labels(0, 2)));
        all.addAll(List.of(x.most(-1), x.piles(-1), x.shelf(-1), x.buy(-1), x.nuts(4, 0), x.nuts(4, 1)));
        for (int box = 0; box < x.count(0); box++) {
            all.addAll(List.of(x.on(box), x.fits(box), x.most(box), x.piles(box), x.shelf(box), x.labels(box, 1)));
            all.addAll(List.of(x.soup(11 * box, 0), x.soup(9 * box, 1), x.evening(8 * box, box)));
        }
        for (int lid = 0; lid < x.count(1); lid++) {
            all.addAll(List.of(x.worth(lid), x.tries(lid), x.has(lid)));
        }
        for (int sort = 0; sort < x.count(3); sort++) {
            all.add(x.buy(sort));
        }
        return all;
    }
}
