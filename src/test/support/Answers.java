import java.util.function.LongSupplier;

/** What the tests share: answers held against those that are due, and cupboards made in one line. */
abstract class Answers {
    static final int MAX = Integer.MAX_VALUE;
    static final int MIN = Integer.MIN_VALUE;
    private static final int BAD_ROW = 0;
    private static final int NO_ROW = 1;
    private static final int FULL_ROW = 2;
    private static final int NOT_COUNTED = 3;
    private static String place = "";
    private static int wrong = 0;
    private static int answers = 0;

    /** From here on, a wrong answer is told as one of this place. */
    static void at(String newPlace) {
        place = newPlace;
    }

    static int answersSoFar() {
        return answers;
    }

    static void fault(String what) {
        wrong++;
        System.out.println(place + ": " + what);
    }

    static void due(String call, long got, long want) {
        answers++;
        if (got != want) {
            fault(call + " answered " + got + ", due is " + want);
        }
    }

    static void end() {
        System.out.println(answers + " answers looked at, " + wrong + " not as due");
        if (wrong != 0) {
            System.exit(1);
        }
    }

    /** A refused call answers as told, is counted in one row of STATUS alone, and changes nothing else. */
    private static void refused(LidForEach x, int row, String call, LongSupplier it, long want) {
        long before = x.digest();
        int[] were = {x.status(0), x.status(1), x.status(2)};
        due(call, it.getAsLong(), want);
        for (int i = 0; i < 3; i++) {
            due("status(" + i + ") behind " + call, x.status(i), were[i] + (i == row ? 1 : 0));
        }
        due("digest() behind " + call, x.digest(), before);
    }

    static void bad(LidForEach x, String call, LongSupplier it) {
        refused(x, BAD_ROW, call, it, LidForEach.BAD);
    }

    static void bad10(LidForEach x, String call, LongSupplier it) {
        refused(x, BAD_ROW, call, it, -10);
    }

    static void badAs(LidForEach x, String call, LongSupplier it, long want) {
        refused(x, BAD_ROW, call, it, want);
    }

    static void no(LidForEach x, String call, LongSupplier it) {
        refused(x, NO_ROW, call, it, LidForEach.NO);
    }

    static void full(LidForEach x, String call, LongSupplier it) {
        refused(x, FULL_ROW, call, it, LidForEach.FULL);
    }

    /** An answer that is no refusal, of a call that changes nothing. */
    static void quiet(LidForEach x, String call, LongSupplier it, long want) {
        refused(x, NOT_COUNTED, call, it, want);
    }

    static LidForEach boxes(int... formSizeHolds) {
        LidForEach x = new LidForEach();
        for (int i = 0; i + 2 < formSizeHolds.length; i += 3) {
            x.box(formSizeHolds[i], formSizeHolds[i + 1], formSizeHolds[i + 2]);
        }
        return x;
    }

    static LidForEach withLids(LidForEach x, int... kindFormSize) {
        for (int i = 0; i + 2 < kindFormSize.length; i += 3) {
            x.lid(kindFormSize[i], kindFormSize[i + 1], kindFormSize[i + 2]);
        }
        return x;
    }

    /** Something of all that a cupboard has: two boxes, two lids, one of them on, and the rest once. */
    static LidForEach somethingOfAll() {
        LidForEach x = withLids(boxes(0, 4, 1, 2, 9, 20), 0, 0, 4, 5, 2, 9);
        x.put(1, 0);
        x.grasp(1, 6);
        x.eye(0, 3);
        x.sort(1, 2, 3, 44);
        x.lend(0, 1, 4);
        x.hint(3, 1, 0);
        return x;
    }

    static void write(LidForEach x, String text) {
        x.clear();
        for (int i = 0; i < text.length(); i++) {
            due("type(" + (int) text.charAt(i) + ")", x.type(text.charAt(i)), i + 1);
        }
    }

    static void reads(LidForEach x, String text, int want) {
        write(x, text);
        due("read() of '" + text + "'", x.read(), want);
    }

    static void fraction(LidForEach x, long above, long below) {
        due("part(0)", x.part(0), above);
        due("part(1)", x.part(1), below);
    }
}
