import java.lang.reflect.Constructor;
import java.lang.reflect.Field;
import java.lang.reflect.Member;
import java.lang.reflect.Method;
import java.lang.reflect.Modifier;
import java.util.Map;
import java.util.TreeMap;

/** The public face: just the document's constant, constructor and methods, and nothing else to be seen. */
public final class FaceTest {
    private static final Map<String, String> METHODS = new TreeMap<>();

    public static void main(String[] args) {
        Check.due("NONE", AirValves.NONE, -1);
        Check.due("modifiers of the class", Modifier.toString(AirValves.class.getModifiers()), "public final");
        methods("(int)", "append", "about", "setting", "remove", "ticks", "beat", "save", "restore");
        methods("()", "clearText", "errorPosition", "load", "undo", "restIn", "tightest");
        methods("(int, int)", "valveOf", "leg", "ductOf", "valve", "leak", "feed", "set", "suspect");
        methods("(int, int, int)", "push", "rule", "ifLeak");
        methods("(int, int, int, int, int)", "duct");
        methods("(int, boolean)", "press");
        methods("(int, long)", "runScript");
        methods("(long, int)", "simulate");
        seen();
        Check.end("FaceTest");
    }

    private static void methods(String arguments, String... names) {
        for (String name : names) {
            METHODS.put(name, arguments);
        }
    }

    private static void seen() {
        for (Field field : AirValves.class.getDeclaredFields()) {
            Check.due("public: " + field.getName(), isSeen(field) + "", field.getName().equals("NONE") + "");
        }
        for (Constructor<?> made : AirValves.class.getDeclaredConstructors()) {
            Check.due("arguments of the constructor", made.getParameterCount(), 0);
        }
        Map<String, String> methods = new TreeMap<>();
        for (Method method : AirValves.class.getDeclaredMethods()) {
            if (isSeen(method)) {
                String types = java.util.Arrays.toString(method.getParameterTypes());
                methods.put(method.getName(), "(" + types.substring(1, types.length() - 1) + ")");
                Check.due("modifiers of " + method.getName(), Modifier.toString(method.getModifiers()), "public");
                Check.due("type of " + method.getName(), method.getReturnType().getName(), "int");
            } else {
                Check.due("private " + method.getName() + " bears a public name",
                        METHODS.containsKey(method.getName()) + "", "false");
            }
        }
        Check.due("the methods", methods.toString(), METHODS.toString());
    }

    private static boolean isSeen(Member member) {
        return !Modifier.isPrivate(member.getModifiers()) && !member.isSynthetic();
    }
}
