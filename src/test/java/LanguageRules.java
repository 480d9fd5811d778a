import java.lang.reflect.Constructor;
import java.lang.reflect.Field;
import java.lang.reflect.Method;
import java.lang.reflect.Modifier;
import java.nio.file.Files;
import java.nio.file.Path;
import java.util.ArrayDeque;
import java.util.ArrayList;
import java.util.Arrays;
import java.util.Collections;
import java.util.Deque;
import java.util.IdentityHashMap;
import java.util.List;
import java.util.Map;
import java.util.Set;
import java.util.TreeSet;
import java.util.regex.Matcher;
import java.util.regex.Pattern;

/** The rules of LANGUAGE.md that can be seen from the source and from the compiled face. */
public final class LanguageRules {
    private static final Path SOURCE = Path.of("src/main/java/LidForEach.java");
    private static final String[] FACE = {"int box(int,int,int)", "int lid(int,int,int)", "int put(int,int)", "int off(int)",
        "int undo()", "int on(int)", "int grasp(int,int)", "int sort(int,int,int,int)", "int eye(int,int)", "int type(int)",
        "int clear()", "int read()", "int fits(int)", "int most(int)", "int lacking()", "int soup(int,int)", "int much()",
        "int worth(int)", "int spare()", "int piles(int)", "int shelf(int)", "int buy(int)", "int tries(int)",
        "int nuts(int,int)", "int lend(int,int,int)", "int has(int)", "int wrong()", "int hint(int,int,int)",
        "int forget(int)", "int labels(int,int)", "int evening(int,int)", "long part(int)", "int image(int)",
        "int from(int)", "int status(int)", "int count(int)", "long digest()"};
    private static final Set<String> IMPORTS = Set.of("java.util.Arrays", "java.util.ArrayList", "java.util.List", "java.util.Iterator");
    private static final String[] FORBIDDEN = {"throw", "throws", "try", "catch", "finally", "synchronized", "assert",
        "native", "volatile", "transient", "strictfp", "hashCode", "toString", "super", "protected", "System.out",
        "System.currentTimeMillis", "System.nanoTime", "Thread", "Random", "Object", "Exception"};
    private static int wrong = 0;

    private static void rule(int number, boolean kept, String what) {
        if (!kept) {
            wrong++;
            System.out.println("rule " + number + ": " + what);
        }
    }

    private static void face() {
        Set<String> due = new TreeSet<>(Arrays.asList(FACE));
        Set<String> found = new TreeSet<>();
        Set<String> names = new TreeSet<>();
        for (Method m : LidForEach.class.getDeclaredMethods()) {
            if (Modifier.isPublic(m.getModifiers())) {
                String parameters = Arrays.toString(m.getParameterTypes()).replaceAll("[\\[\\] ]", "");
                found.add(m.getReturnType() + " " + m.getName() + "(" + parameters + ")");
                names.add(m.getName());
            } else {
                rule(1, Modifier.isPrivate(m.getModifiers()), m + " is not private");
            }
        }
        rule(1, due.equals(found), "the public methods are " + found);
        for (Class<?> c : classes()) {
            for (Method m : c.getDeclaredMethods()) {
                rule(1, Modifier.isPublic(m.getModifiers()) || !names.contains(m.getName()), m + " bears the name of a public one");
                rule(11, m.getParameterCount() <= 7, m + " has more than seven parameters");
            }
        }
        rule(1, Modifier.isFinal(LidForEach.class.getModifiers()), "the class is not final");
        Constructor<?>[] constructors = LidForEach.class.getDeclaredConstructors();
        rule(1, constructors.length == 1 && Modifier.isPublic(constructors[0].getModifiers())
            && constructors[0].getParameterCount() == 0, "the constructor");
    }

    private static List<Class<?>> classes() {
        List<Class<?>> all = new ArrayList<>(List.of(LidForEach.class));
        all.addAll(Arrays.asList(LidForEach.class.getDeclaredClasses()));
        return all;
    }

    private static void fields() {
        Set<String> constants = new TreeSet<>();
        for (Class<?> c : classes()) {
            int own = 0;
            rule(2, c == LidForEach.class || Modifier.isStatic(c.getModifiers()), c + " is not static");
            for (Field f : c.getDeclaredFields()) {
                boolean isStatic = Modifier.isStatic(f.getModifiers());
                own += isStatic ? 0 : 1;
                rule(5, !isStatic || Modifier.isFinal(f.getModifiers()), f + " is static and not final");
                if (c == LidForEach.class && Modifier.isPublic(f.getModifiers())) {
                    constants.add(f.getName());
                } else {
                    rule(1, c != LidForEach.class || Modifier.isPrivate(f.getModifiers()), f + " is not private");
                }
            }
            rule(11, own <= 20, c + " has " + own + " fields");
        }
        rule(1, constants.equals(Set.of("NONE", "BAD", "NO", "FULL")), "the public constants are " + constants);
        rule(11, classes().size() <= 12, "there are " + classes().size() + " classes");
    }

    private static String bare(String source) {
        return source.replaceAll("(?s)/\\*.*?\\*/", "").replaceAll("//[^\n]*", "").replaceAll("\"[^\"\n]*\"", "\"\"");
    }

    private static void source() throws Exception {
        String source = Files.readString(SOURCE);
        String code = bare(source);
        rule(3, source.chars().allMatch(c -> c == '\n' || c >= 32 && c < 127), "a sign outside 32 to 126");
        rule(1, !Pattern.compile("(?m)^\\s*package\\b").matcher(code).find(), "a package line");
        Matcher imports = Pattern.compile("import\\s+([\\w.*]+);").matcher(code);
        while (imports.find()) {
            rule(4, IMPORTS.contains(imports.group(1)), "import " + imports.group(1));
        }
        for (String word : FORBIDDEN) {
            rule(6, !Pattern.compile("\\b" + Pattern.quote(word) + "\\b").matcher(code).find(), word);
        }
        rule(2, !code.contains("->") && !code.contains("::"), "a lambda or a method reference");
        rule(4, !code.contains("Exact("), "a function whose name ends in Exact");
        rule(4, !Pattern.compile("\\bjava\\.(?!util\\.)|\\bjavax\\.").matcher(code).find(), "another library");
        methodLengths(code);
    }

    private static void methodLengths(String code) {
        String[] lines = code.split("\n");
        Pattern head = Pattern.compile("^(    |        )\\w[\\w\\[\\] ]*\\(.*\\) \\{$");
        for (int i = 0; i < lines.length; i++) {
            Matcher m = head.matcher(lines[i]);
            if (m.matches()) {
                int end = i;
                while (end < lines.length && !lines[end].equals(m.group(1) + "}")) {
                    end++;
                }
                rule(11, end - i < 60, "the method of line " + i + " is long: " + lines[i].trim());
            }
        }
    }

    /** How many objects and arrays, and how many fields and elements, an object is made of. */
    private static int[] room(LidForEach x) throws Exception {
        Map<Object, Boolean> seen = new IdentityHashMap<>();
        Deque<Object> open = new ArrayDeque<>(Collections.singleton(x));
        int cells = 0;
        while (!open.isEmpty()) {
            Object o = open.pop();
            if (seen.put(o, true) != null) {
                continue;
            }
            if (o.getClass().isArray()) {
                cells += java.lang.reflect.Array.getLength(o);
                continue;
            }
            for (Field f : o.getClass().getDeclaredFields()) {
                if (!Modifier.isStatic(f.getModifiers())) {
                    cells++;
                    f.setAccessible(true);
                    if (!f.getType().isPrimitive() && f.get(o) != null) {
                        open.push(f.get(o));
                    }
                }
            }
        }
        return new int[] {seen.size(), cells};
    }

    private static void roomOfOne() throws Exception {
        LidForEach x = new LidForEach();
        int[] atFirst = room(x);
        rule(12, atFirst[0] <= 100 && atFirst[1] <= 3000, "an object takes " + Arrays.toString(atFirst));
        for (int i = 0; i < 60; i++) {
            x.box(i % 3, 1 + i % 9, i % 21);
            x.lid(i % 6, i % 3, 1 + i % 9);
            x.put(i % 7, i % 5);
            x.sort(i % 6, i % 3, 1 + i % 9, 1 + i % 50);
            x.lend(i % 4, i % 7, 4);
            x.hint(i % 4, i % 7, i % 6);
            x.type('a' + i % 26);
            x.image(i % 2);
        }
        rule(12, Arrays.equals(atFirst, room(x)), "an object grows to " + Arrays.toString(room(x)));
    }

    /** Calls make nothing, so that a long run does not fill the room: constructors alone write new. */
    private static void nothingIsMadeByCalls() throws Exception {
        for (String line : bare(Files.readString(SOURCE)).split("\n")) {
            boolean makes = line.matches(".*\\bnew\\b.*");
            boolean inField = line.matches("    (    )?private final .* = new .*;");
            boolean inTable = line.equals("            cells = new int[this.width * this.room];");
            rule(12, !makes || inField || inTable, "made outside a constructor: " + line.trim());
        }
    }

    public static void main(String[] args) throws Exception {
        face();
        fields();
        source();
        roomOfOne();
        nothingIsMadeByCalls();
        System.out.println(wrong == 0 ? "the rules looked at are kept" : wrong + " rules are broken");
        if (wrong != 0) {
            System.exit(1);
        }
    }
}
