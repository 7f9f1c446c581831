import java.io.IOException;
import java.lang.reflect.Executable;
import java.lang.reflect.Field;
import java.lang.reflect.Method;
import java.lang.reflect.Modifier;
import java.nio.charset.StandardCharsets;
import java.nio.file.Files;
import java.nio.file.Path;
import java.util.ArrayList;
import java.util.HashSet;
import java.util.List;
import java.util.Set;
import java.util.regex.Matcher;
import java.util.regex.Pattern;

/**
 * What of ../shared/LANGUAGE.md can be seen without reading: words and library that it does not have,
 * and its numbers of classes, fields, parameters and lines. It is run from the project's own folder.
 */
public final class LanguageTest {
    private static final Path SOURCE = Path.of("src/main/java/AirValves.java");
    private static final int MOST_LINES = 60;
    private static final int MOST_PARAMETERS = 7;
    private static final int MOST_CLASSES = 12;
    private static final int MOST_FIELDS = 20;
    private static final Set<String> CONSTANTS = Set.of("int", "long", "boolean", "char", "java.lang.String", "[I",
            "[J", "[C", "[B");
    private static final Set<String> LIBRARY = Set.of("System.arraycopy", "Arrays.fill", "Math.max", "Math.min");

    public static void main(String[] args) throws IOException {
        String source = Files.readString(SOURCE, StandardCharsets.ISO_8859_1);
        String code = withoutComments(source);
        signs(source);
        words(code);
        library(code);
        made(code);
        loops(code);
        methodsAreShort(code);
        List<Class<?>> classes = classes();
        Check.due("classes, at most " + MOST_CLASSES, classes.size() <= MOST_CLASSES ? 1 : 0, 1);
        for (Class<?> one : classes) {
            fields(one);
            methods(one);
        }
        Check.end("LanguageTest");
    }

    private static String withoutComments(String source) {
        return source.replaceAll("(?s)/\\*.*?\\*/", "").replaceAll("//[^\n]*", "");
    }

    private static void none(String code, String pattern) {
        Matcher matcher = Pattern.compile(pattern).matcher(code);
        if (matcher.find()) {
            Check.wrong("in the class: " + matcher.group().trim());
        }
    }

    private static void signs(String source) {
        for (int i = 0; i < source.length(); i++) {
            if (source.charAt(i) > 126) {
                Check.wrong("a sign that is not plain at " + i);
            }
        }
    }

    /** Rules 2, 3, 6, 10 and 13. */
    private static void words(String code) {
        String[] words = {"package", "try", "catch", "finally", "synchronized", "assert", "volatile", "transient",
            "native", "double", "float", "Object", "Thread", "Random", "Class", "Throwable", "Exception",
            "RuntimeException", "Error", "var", "yield", "protected", "equals", "hashCode", "toString"};
        for (String word : words) {
            none(code, "\\b" + word + "\\b");
        }
        none(code, "->|::");
        none(code, "\"");
        none(code, "static\\s*\\{");
        none(code, "\\bthrow\\b(?! new (IllegalStateException|IllegalArgumentException|IndexOutOfBoundsException)\\(\\);)");
        none(code, "Exact\\b");
    }

    /** Rule 4. */
    private static void library(String code) {
        none(code, "\\bimport (?!java\\.util\\.Arrays;)");
        Matcher calls = Pattern.compile("\\b(System|Arrays|Math|Integer|Long|String|List)\\.(\\w+)").matcher(code);
        while (calls.find()) {
            if (!LIBRARY.contains(calls.group()) && !calls.group().equals("util.Arrays")) {
                Check.wrong("in the class: " + calls.group());
            }
        }
    }

    /** Rule 12: objects are made in fields and constructors alone, but for exceptions. */
    private static void made(String code) {
        String where = "";
        for (String line : code.split("\n")) {
            if (line.matches(" +(public |private |)(static |)(\\w+(\\[\\])? |)\\w+\\(.*")) {
                where = line.trim();
            }
            boolean makes = line.contains("new ") && !line.contains("throw new ");
            boolean field = line.matches(" +(private |)final .* = new .*;");
            boolean inConstructor = where.matches("(public |private |)[A-Z]\\w*\\(\\).*");
            if (makes && !field && !inConstructor) {
                Check.wrong("an object is made by a call: " + line.trim());
            }
        }
    }

    /** Rule 9: all loops count. */
    private static void loops(String code) {
        none(code, "\\b(while|do)\\b");
        Matcher loops = Pattern.compile("\\bfor \\((.*)\\) \\{").matcher(code);
        while (loops.find()) {
            if (!loops.group(1).matches("int \\w+ = .*; .*\\w+ <=? .*; \\w+\\+\\+")) {
                Check.wrong("a loop that does not count: " + loops.group());
            }
        }
    }

    /** Rule 11. */
    private static void methodsAreShort(String code) {
        int start = 0;
        String[] lines = code.split("\n", -1);
        for (int i = 0; i < lines.length; i++) {
            if (lines[i].matches(" +[\\w\\[\\] ]+\\(.*") && !lines[i].matches(" +(if|for|switch|return|else) .*")
                    && !lines[i].trim().endsWith(";")) {
                start = i;
            }
            if (lines[i].matches("    (    )?\\}") && i - start > MOST_LINES && start > 0) {
                Check.wrong("a method that is too long: " + lines[start].trim());
            }
        }
    }

    private static List<Class<?>> classes() {
        List<Class<?>> classes = new ArrayList<>();
        classes.add(AirValves.class);
        for (Class<?> inside : AirValves.class.getDeclaredClasses()) {
            classes.add(inside);
            Check.due("static: " + inside.getName(), Modifier.isStatic(inside.getModifiers()) ? 1 : 0, 1);
            Check.due("public: " + inside.getName(), Modifier.isPublic(inside.getModifiers()) ? 1 : 0, 0);
            Check.due("classes in " + inside.getName(), inside.getDeclaredClasses().length, 0);
        }
        return classes;
    }

    /** Rules 5 and 11. */
    private static void fields(Class<?> one) {
        int count = 0;
        for (Field field : one.getDeclaredFields()) {
            if (!Modifier.isStatic(field.getModifiers())) {
                count++;
                continue;
            }
            String what = one.getName() + "." + field.getName();
            Check.due("final: " + what, Modifier.isFinal(field.getModifiers()) ? 1 : 0, 1);
            Check.due("a constant: " + what, CONSTANTS.contains(field.getType().getName()) ? 1 : 0, 1);
        }
        Check.due("fields of " + one.getName() + ", at most " + MOST_FIELDS, count <= MOST_FIELDS ? 1 : 0, 1);
    }

    /** Rules 1 and 11: no private method bears the name of a public one. */
    private static void methods(Class<?> one) {
        Set<String> face = new HashSet<>();
        for (Method method : AirValves.class.getDeclaredMethods()) {
            if (Modifier.isPublic(method.getModifiers())) {
                face.add(method.getName());
            }
        }
        List<Executable> all = new ArrayList<>(List.of(one.getDeclaredMethods()));
        all.addAll(List.of(one.getDeclaredConstructors()));
        for (Executable method : all) {
            String what = one.getName() + "." + method.getName();
            Check.due("parameters of " + what, method.getParameterCount() <= MOST_PARAMETERS ? 1 : 0, 1);
            boolean hidden = !Modifier.isPublic(method.getModifiers());
            Check.due("the name of " + what, hidden && face.contains(method.getName()) ? 1 : 0, 0);
        }
    }
}
