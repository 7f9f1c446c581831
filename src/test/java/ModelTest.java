import java.lang.reflect.InvocationTargetException;
import java.lang.reflect.Method;
import java.util.ArrayList;
import java.util.HashMap;
import java.util.List;
import java.util.Map;
import java.util.Random;

/** Random runs of calls, each answer compared with the model's (promises 1 to 30). */
public final class ModelTest {
    private static final int RUNS = 700;
    private static final int CALLS = 500;

    private static final Map<String, Method> REAL = new HashMap<>();
    private static final Map<String, Method> MODEL = new HashMap<>();

    private final Random random;
    private final AirValves real = new AirValves();
    private final Model model = new Model();
    private final List<String> log = new ArrayList<>();
    private final int wrongEvery;
    /** Whether the run keeps to nets that beat: strong airs, many ducts, little loss. */
    private final boolean lively;
    private boolean same = true;

    private ModelTest(int seed) {
        random = new Random(seed);
        wrongEvery = seed % 5 == 0 ? 6 : 40;
        lively = seed % 2 == 0;
    }

    public static void main(String[] args) throws ReflectiveOperationException {
        int runs = args.length > 0 ? Integer.parseInt(args[0]) : RUNS;
        int first = args.length > 1 ? Integer.parseInt(args[1]) : 0;
        for (Method method : AirValves.class.getDeclaredMethods()) {
            if ((method.getModifiers() & java.lang.reflect.Modifier.PUBLIC) != 0) {
                REAL.put(method.getName(), method);
                MODEL.put(method.getName(), Model.class.getDeclaredMethod(method.getName(),
                        method.getParameterTypes()));
            }
        }
        Check.due("methods of the face", REAL.size(), 29);
        for (int seed = first; seed < first + runs; seed++) {
            new ModelTest(seed).run(seed);
        }
        Check.end("ModelTest");
    }

    private void run(int seed) throws ReflectiveOperationException {
        if (seed % 3 == 0) {
            loadSomeText();
        } else {
            build();
        }
        while (same && log.size() < CALLS) {
            anyCall();
        }
        if (!same) {
            int from = Math.max(0, log.size() - 12);
            Check.wrong("run " + seed + ", the last of " + log.size() + " calls:\n  "
                    + String.join("\n  ", log.subList(from, log.size())));
        }
    }

    private void build() throws ReflectiveOperationException {
        int valves = 2 + random.nextInt(9);
        for (int i = 0; i < valves; i++) {
            call("valve", kind(i), supply());
        }
        if (lively && valves > 2) {
            call("duct", 2, 0, 2, bit(), 1 + random.nextInt(6));
            call("duct", 2, bit(), valve(), bit(), 1 + random.nextInt(6));
        }
        int ducts = lively ? 8 + random.nextInt(7) : random.nextInt(17);
        for (int i = 0; i < ducts; i++) {
            call("duct", valve(), bit(), valve(), bit(), 1 + random.nextInt(6));
        }
    }

    private void loadSomeText() throws ReflectiveOperationException {
        call("clearText");
        StringBuilder text = new StringBuilder("W");
        int commands = random.nextInt(26);
        for (int i = 0; i < commands; i++) {
            text.append(command(i));
        }
        spoil(text);
        for (int i = 0; i < text.length(); i++) {
            call("append", (int) text.charAt(i));
            if (random.nextInt(30) == 0) {
                call("errorPosition");
            }
        }
        call("errorPosition");
        call("load");
    }

    private String command(int i) {
        int kind = i < 8 ? 0 : random.nextInt(14);
        int v = random.nextInt(random.nextInt(8) == 0 ? 10 : 7);
        switch (kind) {
            case 0, 1:
                return "v" + kind(i) + supply();
            case 2, 3, 4, 5, 6, 7:
                return "d" + v + bit() + random.nextInt(7) + bit() + (1 + random.nextInt(6));
            case 8:
                return "k" + v;
            case 9:
                return "r" + v;
            case 10, 11:
                return String.format("l%02d%02d", random.nextInt(random.nextBoolean() ? 16 : 6), random.nextInt(31));
            default:
                return String.format("t%02d", 1 + random.nextInt(99));
        }
    }

    private void spoil(StringBuilder text) {
        int how = random.nextInt(6);
        if (how == 0) {
            text.setCharAt(random.nextInt(text.length()), (char) random.nextInt(256));
        } else if (how == 1) {
            text.setCharAt(random.nextInt(text.length()), (char) ('0' + random.nextInt(10)));
        } else if (how == 2) {
            text.setLength(1 + random.nextInt(text.length()));
        }
    }

    private void anyCall() throws ReflectiveOperationException {
        int kind = random.nextInt(100);
        if (kind < 40) {
            anyReading();
        } else if (kind < 75) {
            anyAction();
        } else if (kind < 88) {
            anyForecast();
        } else if (kind < 94) {
            anyScript();
        } else if (kind < 97) {
            call(random.nextInt(3) > 0 ? "save" : "restore", slot());
        } else if (random.nextInt(12) == 0 && log.size() < CALLS - 150) {
            loadSomeText();
        } else {
            call(random.nextBoolean() ? "errorPosition" : "undo");
        }
    }

    private void anyReading() throws ReflectiveOperationException {
        switch (random.nextInt(6)) {
            case 0 -> call("about", in(0, 6));
            case 1 -> call("valveOf", valve(), in(0, 4));
            case 2 -> call("leg", valve(), in(0, 1));
            case 3 -> call("push", valve(), in(0, 1), in(0, 1));
            case 4 -> call("ductOf", duct(), in(0, 7));
            default -> call("setting", in(0, 1));
        }
    }

    private void anyAction() throws ReflectiveOperationException {
        switch (random.nextInt(18)) {
            case 0 -> call("valve", in(0, 4), wrongNow() ? anyNumber() : supply());
            case 1, 2 -> call("duct", valve(), in(0, 1), valve(), in(0, 1), in(1, 6));
            case 3 -> {
                if (!lively || random.nextInt(6) == 0) {
                    call("remove", duct());
                }
            }
            case 4, 5, 6 -> call("press", random.nextInt(3) > 0 ? in(0, 1) : valve(), random.nextBoolean());
            case 7, 8 -> call("leak", duct(), in(0, lively ? 6 : 30));
            case 9, 10 -> call("feed", valve(), wrongNow() ? anyNumber() : supply());
            case 11 -> call("set", 0, in(0, lively ? 2 : 9));
            case 12 -> call("set", 1, in(5, lively ? 35 : 90));
            case 13 -> {
                if (!lively) {
                    call("set", wrongNow() ? anyNumber() : 1, in(0, 99));
                }
            }
            case 14 -> call("undo");
            case 15 -> call("ticks", in(1, 99));
            default -> call("ticks", in(1, 8));
        }
    }

    private void anyForecast() throws ReflectiveOperationException {
        switch (random.nextInt(12)) {
            case 0, 1 -> call("restIn");
            case 2, 3 -> call("beat", beatingValve());
            case 4, 5, 6 -> call("rule", random.nextInt(6) == 0 ? valve() : in(0, 1), in(0, 1), valve());
            case 7, 8 -> call("ifLeak", duct(), in(0, 30), beatingValve());
            case 9, 10 -> call("tightest");
            default -> {
                if (random.nextInt(15) == 0) {
                    int v = beatingValve();
                    call("suspect", v, random.nextInt(3) == 0 ? in(1, 24) : beatWithSomeLeak(v));
                } else if (wrongNow()) {
                    call("suspect", valve(), anyNumber() | 256);
                }
            }
        }
    }

    private int beatingValve() {
        return lively && random.nextInt(4) > 0 ? 2 : valve();
    }

    private int beatWithSomeLeak(int v) {
        int ducts = model.about(1);
        if (ducts == 0 || v < 0 || v >= model.about(0)) {
            return -1;
        }
        return model.ifLeak(random.nextInt(ducts), 1 + random.nextInt(30), v);
    }

    private void anyScript() throws ReflectiveOperationException {
        if (random.nextBoolean()) {
            call("simulate", random.nextLong(), in(1, 60));
            return;
        }
        int n = 1 + random.nextInt(3);
        long script = 0;
        for (int i = 0; i < n; i++) {
            script = 1000000L * script + group();
        }
        if (wrongNow()) {
            n = random.nextInt(5);
            script = random.nextLong() >> random.nextInt(60);
        }
        call("runScript", n, script);
    }

    private long group() {
        int v = valve();
        int d = Math.abs(duct() % 100);
        long digits = Math.abs(v % 10) * 10000L;
        long side = bit() * 1000L;
        long pair = random.nextInt(100);
        long group = switch (random.nextInt(10)) {
            case 0, 1 -> 100000L + random.nextInt(12);
            case 2 -> 200000L + digits + side;
            case 3 -> 300000L + d * 1000L + random.nextInt(32);
            case 4 -> 400000L + digits + pair;
            case 5 -> 500000L + bit() * 10000L + random.nextInt(random.nextBoolean() ? 12 : 100);
            case 6 -> 600000L + digits + side + (random.nextBoolean() ? 0 : pair);
            case 7 -> 700000L + digits + side + bit();
            case 8 -> 800000L;
            default -> 900000L + digits + bit();
        };
        long place = (long) Math.pow(10, random.nextInt(6));
        return random.nextInt(7) == 0 ? (group + random.nextInt(10) * place) % 1000000L : group;
    }

    private boolean wrongNow() {
        return random.nextInt(wrongEvery) == 0;
    }

    private int bit() {
        return random.nextInt(2);
    }

    /** The first two are keys, for rule; a jet whose own air pushes it beats. */
    private int kind(int v) {
        if (v < 2) {
            return 0;
        }
        if (lively && v == 2) {
            return 1;
        }
        return lively && random.nextBoolean() ? 1 + random.nextInt(2) : random.nextInt(5);
    }

    private int supply() {
        return lively ? 40 + random.nextInt(60) : 10 + random.nextInt(90);
    }

    private int anyNumber() {
        int[] edges = {Integer.MIN_VALUE, Integer.MAX_VALUE, -1, -2, 2, 10, 16, 100, 31, 0};
        return random.nextBoolean() ? edges[random.nextInt(edges.length)] : random.nextInt(220) - 20;
    }

    private int in(int least, int most) {
        if (wrongNow()) {
            return random.nextInt(3) == 0 ? least - 1 : random.nextBoolean() ? most + 1 : anyNumber();
        }
        return least + random.nextInt(most - least + 1);
    }

    private int valve() {
        int valves = model.about(0);
        return valves == 0 ? random.nextInt(3) - 1 : in(0, valves - 1);
    }

    private int duct() {
        int ducts = model.about(1);
        return ducts == 0 ? random.nextInt(3) - 1 : in(0, ducts - 1);
    }

    private int slot() {
        return in(0, 1);
    }

    private void call(String name, Object... arguments) throws ReflectiveOperationException {
        if (!same) {
            return;
        }
        String got = outcome(REAL.get(name), real, arguments);
        String want = outcome(MODEL.get(name), model, arguments);
        StringBuilder row = new StringBuilder(name).append('(');
        for (int i = 0; i < arguments.length; i++) {
            row.append(i == 0 ? "" : ", ").append(arguments[i]);
        }
        log.add(row.append(") answered ").append(got).append(", due is ").append(want).toString());
        same = got.equals(want);
    }

    private static String outcome(Method method, Object target, Object[] arguments)
            throws ReflectiveOperationException {
        try {
            return String.valueOf(method.invoke(target, arguments));
        } catch (InvocationTargetException e) {
            return "throws." + e.getCause().getClass().getSimpleName();
        }
    }
}
