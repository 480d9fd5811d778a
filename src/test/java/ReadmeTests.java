import java.io.IOException;
import java.lang.reflect.Method;
import java.lang.reflect.Modifier;
import java.net.URL;
import java.net.URLClassLoader;
import java.nio.file.Files;
import java.nio.file.Path;
import java.util.regex.Matcher;
import java.util.regex.Pattern;
import javax.tools.ToolProvider;

/** README.md is held to what the class does: its Java runs and answers as it says, and it names each call. */
public final class ReadmeTests extends Answers {
    private static final Path README = Path.of("README.md");
    private static final Pattern BLOCK = Pattern.compile("(?s)```java\n(.*?)```");
    private static final Pattern ANSWER = Pattern.compile("(?m)^(?:int|long) (\\w+) = (.*); // (-?\\d+)(?::.*)?$");
    private static final Pattern NAMED_ANSWER = Pattern.compile("(?m)^(?:int|long) \\w+ = .*$");

    /** Java that answers with two numbers for each line that tells its answer: what it was, and what is due. */
    private static String program(String block) {
        StringBuilder code = new StringBuilder("public final class Example {\n    public static long[] answers() {\n");
        StringBuilder pairs = new StringBuilder();
        Matcher line = ANSWER.matcher(block);
        while (line.find()) {
            pairs.append(line.group(1)).append(", ").append(line.group(3)).append("L, ");
        }
        code.append(block).append("return new long[] {").append(pairs).append("};\n    }\n}\n");
        return code.toString();
    }

    private static long[] answersOf(String block) throws IOException, ReflectiveOperationException {
        Path folder = Files.createTempDirectory("readme");
        Path source = folder.resolve("Example.java");
        Path compiled = folder.resolve("Example.class");
        try {
            Files.writeString(source, program(block));
            int failed = ToolProvider.getSystemJavaCompiler().run(null, null, null,
                "-cp", System.getProperty("java.class.path"), "-d", folder.toString(), source.toString());
            if (failed != 0) {
                fault("it does not compile:\n" + block);
                return new long[0];
            }
            try (URLClassLoader loader = new URLClassLoader(new URL[] {folder.toUri().toURL()})) {
                return (long[]) loader.loadClass("Example").getMethod("answers").invoke(null);
            }
        } finally {
            Files.deleteIfExists(source);
            Files.deleteIfExists(compiled);
            Files.deleteIfExists(folder);
        }
    }

    private static void example(String block) throws IOException, ReflectiveOperationException {
        long[] answers = answersOf(block);
        Matcher line = ANSWER.matcher(block);
        for (int i = 0; i + 1 < answers.length && line.find(); i += 2) {
            due(line.group(2), answers[i], answers[i + 1]);
        }
        due("how many answers are told", ANSWER.matcher(block).results().count(),
            NAMED_ANSWER.matcher(block).results().count());
    }

    private static void examples(String readme) throws IOException, ReflectiveOperationException {
        int found = 0;
        Matcher block = BLOCK.matcher(readme);
        while (block.find()) {
            found++;
            at("README.md, example " + found);
            example(block.group(1));
        }
        at("README.md");
        due("is there an example", found > 0 ? 1 : 0, 1);
    }

    private static void eachCallIsNamed(String readme) {
        for (Method method : LidForEach.class.getDeclaredMethods()) {
            if (Modifier.isPublic(method.getModifiers())) {
                boolean named = Pattern.compile("(?m)^\\|.*`" + method.getName() + "\\(").matcher(readme).find();
                due("is " + method.getName() + " in the table", named ? 1 : 0, 1);
            }
        }
    }

    private static void eachTestIsNamed(String readme) throws IOException {
        try (var tests = Files.list(Path.of("src/test/java"))) {
            for (Path test : tests.sorted().toList()) {
                String name = test.getFileName().toString().replace(".java", "");
                due("is " + name + " told", readme.contains("- `" + name + "`:") ? 1 : 0, 1);
            }
        }
    }

    public static void main(String[] args) throws IOException, ReflectiveOperationException {
        String readme = Files.readString(README);
        examples(readme);
        eachCallIsNamed(readme);
        eachTestIsNamed(readme);
        end();
    }
}
