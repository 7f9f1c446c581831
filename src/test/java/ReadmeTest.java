import java.io.File;
import java.io.IOException;
import java.lang.reflect.Method;
import java.net.URL;
import java.net.URLClassLoader;
import java.nio.charset.StandardCharsets;
import java.nio.file.Files;
import java.nio.file.Path;
import java.util.ArrayList;
import java.util.List;
import java.util.regex.Matcher;
import java.util.regex.Pattern;
import javax.tools.JavaCompiler;
import javax.tools.ToolProvider;

/**
 * The example in README.md: it is compiled as it stands there, and each of its calls that has an answer
 * behind it has to answer that. It is run from the project's own folder.
 */
public final class ReadmeTest {
    private static final Path README = Path.of("README.md");
    private static final Path TESTS = Path.of("src/test/java");
    private static final String NAME = "ReadmeExample";
    private static final int FEWEST_ANSWERS = 20;
    private static final Pattern EXAMPLE = Pattern.compile("(?s)```java\n(.*?)```");
    /** A call, perhaps kept in a variable; behind it what it answers, and behind a colon why. */
    private static final Pattern ANSWERED = Pattern.compile(
            "(?:int (\\w+) = )?(net\\.(\\w+)\\(.*\\)); *// (-?\\d+|throws \\w+)(?::.*)?");

    private static final List<String> CALLS = new ArrayList<>();
    private static final List<String> DUE = new ArrayList<>();

    public static void main(String[] args) throws IOException, ReflectiveOperationException {
        String readme = Files.readString(README, StandardCharsets.UTF_8);
        Matcher example = EXAMPLE.matcher(readme);
        Check.due("an example in README.md", example.find() ? 1 : 0, 1);
        String program = program(example.group(1));
        Check.due("no other example", example.find() ? 1 : 0, 0);
        Check.due("answers in the example", DUE.size() >= FEWEST_ANSWERS ? 1 : 0, 1);
        compare(answers(program));
        namesAll(readme);
        Check.end("ReadmeTest");
    }

    /** The example's lines in a method that answers what the calls have answered, one by one. */
    private static String program(String example) {
        StringBuilder program = new StringBuilder("public final class " + NAME + " {\n"
                + "public static java.util.List<String> answers() {\n"
                + "java.util.List<String> answers = new java.util.ArrayList<>();\n");
        for (String line : example.split("\n")) {
            Matcher answered = ANSWERED.matcher(line);
            if (answered.matches()) {
                CALLS.add(answered.group(2));
                DUE.add(answered.group(4));
                program.append(answered.group(1) == null ? told(answered.group(2))
                        : line + "\nanswers.add(String.valueOf(" + answered.group(1) + "));\n");
            } else {
                Check.due("an answer that is not understood: " + line, line.contains("//") ? 1 : 0, 0);
                program.append(line).append('\n');
            }
        }
        return program + "return answers;\n}\n}\n";
    }

    private static String told(String call) {
        return "try { answers.add(String.valueOf(" + call + ")); }\n"
                + "catch (RuntimeException e) { answers.add(\"throws \" + e.getClass().getSimpleName()); }\n";
    }

    private static List<?> answers(String program) throws IOException, ReflectiveOperationException {
        Path folder = Files.createTempDirectory("readme");
        Path source = folder.resolve(NAME + ".java");
        Path made = folder.resolve(NAME + ".class");
        JavaCompiler javac = ToolProvider.getSystemJavaCompiler();
        try {
            Files.writeString(source, program, StandardCharsets.UTF_8);
            int failed = javac.run(null, null, null, "-d", folder.toString(), "-cp",
                    System.getProperty("java.class.path"), source.toString());
            Check.due("the example compiles", failed, 0);
            if (failed != 0) {
                return List.of();
            }
            try (URLClassLoader loader = new URLClassLoader(new URL[] {folder.toUri().toURL()})) {
                Method method = loader.loadClass(NAME).getMethod("answers");
                return (List<?>) method.invoke(null);
            }
        } finally {
            Files.deleteIfExists(made);
            Files.deleteIfExists(source);
            Files.deleteIfExists(folder);
        }
    }

    private static void compare(List<?> answers) {
        Check.due("how many calls answered", answers.size(), DUE.size());
        for (int i = 0; i < answers.size() && i < DUE.size(); i++) {
            Check.due("README.md: " + CALLS.get(i), String.valueOf(answers.get(i)), DUE.get(i));
        }
    }

    /** Every method of the face and every test of the project is named in README.md. */
    private static void namesAll(String readme) {
        for (Method method : AirValves.class.getMethods()) {
            if (method.getDeclaringClass() == AirValves.class) {
                named(readme, method.getName());
            }
        }
        for (File test : TESTS.toFile().listFiles()) {
            if (test.getName().endsWith("Test.java")) {
                named(readme, test.getName().replace(".java", ""));
            }
        }
    }

    private static void named(String readme, String name) {
        Check.due("README.md names " + name, readme.contains("`" + name + "`") ? 1 : 0, 1);
    }
}
