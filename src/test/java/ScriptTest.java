import java.util.function.ToIntFunction;

/** Promises 27 and 28: runScript, simulate. */
public final class ScriptTest {
    private static final int NONE = AirValves.NONE;

    public static void main(String[] args) {
        actions();
        actionsFail();
        questions();
        questionsFail();
        noSuchCommands();
        severalCommands();
        runScriptRefuses();
        runScriptOnACopy();
        simulate();
        simulateOnACopy();
        simulateRefuses();
        Check.end("ScriptTest");
    }

    /** The key 0, pressed; the jet 1 that it pushes; the jet 2 at a wall that this one pushed over. */
    private static AirValves net() {
        AirValves x = ReadingTest.chain();
        x.ticks(5);
        return x;
    }

    private static void succeeds(int... groups) {
        for (int group : groups) {
            Check.due("runScript(1, " + group + ")", net().runScript(1, group), NONE);
        }
    }

    private static void fails(int... groups) {
        for (int group : groups) {
            Check.due("runScript(1, " + group + ")", net().runScript(1, group), 0);
        }
    }

    private static void script(int n, long script, int due) {
        Check.due("runScript(" + n + ", " + script + ")", net().runScript(n, script), due);
    }

    private static void actions() {
        succeeds(100001, 100010, 100099);
        succeeds(200000, 201000);
        succeeds(300000, 300030, 301029, 301009);
        succeeds(400010, 410099, 420050);
        succeeds(500000, 500009, 510005, 510090);
    }

    private static void actionsFail() {
        fails(100000, 100100, 101001, 110001, 190099);
        fails(202000, 209000, 201001, 201010, 201100, 210000, 211000, 220000, 230000, 290000);
        fails(300031, 300099, 302000, 310000, 315000, 399000, 300100, 301930);
        fails(400009, 400000, 430050, 490050, 401050, 400150);
        fails(500010, 510004, 510091, 520005, 590005, 501005, 500105, 511050);
    }

    private static void questions() {
        succeeds(600000, 600080, 600079, 601000, 610000, 611050, 620000, 621060);
        succeeds(700000, 701000, 710001, 711000, 720001, 721000);
        succeeds(800000);
        succeeds(900001, 910000, 920001);
    }

    private static void questionsFail() {
        fails(600081, 600099, 601001, 610001, 611051, 621061, 622000, 609000, 630000, 690000, 600100);
        fails(700001, 701001, 710000, 710002, 710009, 720000, 730000, 702000, 712000, 790000, 710101, 710011);
        fails(800001, 800010, 800100, 801000, 810000, 800009);
        fails(900000, 900002, 910001, 920000, 930000, 990000, 901001, 900101, 900011);
    }

    private static void noSuchCommands() {
        fails(0, 1, 10001, 99999, 1000);
    }

    /** What a command does stands for those behind it; the first one that fails is told. */
    private static void severalCommands() {
        script(2, 100001_800000L, NONE);
        script(2, 200000_800000L, 1);
        script(3, 200000_100001_800000L, 2);
        script(3, 200000_100099_800000L, NONE);
        script(3, 200000_100001_600001L, 2);
        script(3, 200000_100001_601080L, NONE);
        script(3, 200000_900000_900001L, 2);
        script(3, 200000_201000_900001L, NONE);
        script(3, 200000_201000_900000L, 2);
        script(3, 600099_100001_800000L, 0);
        script(3, 600001_600099_600099L, 1);
        script(3, 400099_100001_600099L, NONE);
        script(3, 400099_600099_100001L, 1);
        script(3, 300030_100001_710001L, NONE);
        script(3, 510090_710001_300000L, NONE);
        script(3, 300030_100001_710000L, 2);
        script(3, 500009_510090_300030L, NONE);
        script(3, 999999_999999_999999L, 0);
        script(1, 0, 0);
        script(2, 0, 0);
        script(3, 0, 0);
        script(2, 800000, 0);
        script(3, 100001_800000L, 0);
        Check.due("rest in a net that beats", beating(), 0);
        manyDucts();
    }

    /** Sixteen ducts, the one with two digits alone leads to the jet 1. */
    private static void manyDucts() {
        AirValves x = new AirValves();
        x.valve(0, 50);
        x.valve(1, 50);
        for (int d = 0; d < 16; d++) {
            x.duct(0, 1, d == 13 ? 1 : 0, 0, 1);
        }
        x.set(1, 50);
        x.ticks(5);
        Check.due("a leak of the duct 13", x.runScript(3, 313030_100001_710000L), NONE);
        Check.due("a leak of the duct 3", x.runScript(3, 303030_100001_710001L), NONE);
        Check.due("a leak of the duct 12", x.runScript(3, 312030_100001_710001L), NONE);
        Check.due("a leak of the duct 15", x.runScript(1, 315030), NONE);
        Check.due("a leak of the duct 16", x.runScript(1, 316030), 0);
    }

    private static int beating() {
        AirValves x = new AirValves();
        x.valve(1, 50);
        x.duct(0, 0, 0, 0, 1);
        x.ticks(20);
        return x.runScript(1, 800000);
    }

    private static void argument(String what, ToIntFunction<AirValves> call) {
        AirValves x = net();
        Check.argument(x, what, () -> call.applyAsInt(x));
    }

    private static void runScriptRefuses() {
        for (int n : new int[] {Integer.MIN_VALUE, -1, 0, 4, Integer.MAX_VALUE}) {
            argument("runScript(" + n + ", 800000)", x -> x.runScript(n, 800000));
            argument("runScript(" + n + ", 0)", x -> x.runScript(n, 0));
        }
        for (int n = 1; n <= 3; n++) {
            int commands = n;
            long most = n == 1 ? 999999L : n == 2 ? 999999999999L : 999999999999999999L;
            script(n, most, 0);
            for (long script : new long[] {most + 1, Long.MAX_VALUE, -1, Long.MIN_VALUE}) {
                argument("runScript(" + n + ", " + script + ")", x -> x.runScript(commands, script));
            }
        }
        argument("runScript(1, 1800000)", x -> x.runScript(1, 1800000));
        argument("runScript(1, 2 to the 32nd)", x -> x.runScript(1, 1L << 32));
    }

    private static void runScriptOnACopy() {
        AirValves x = net();
        String before = Check.view(x);
        x.runScript(3, 200000_300030_100050L);
        x.runScript(3, 420010_500009_510090L);
        x.runScript(2, 100099_600099L);
        Check.due("the state behind runScript", Check.view(x), before);
        Check.due("what is remembered behind runScript", Check.undoAll(x), 7);
    }

    /** The same turns by the calls of the face on an object that has the same state. */
    private static int byTheFace(AirValves x, long seed, int m) {
        long number = seed;
        for (int turn = 0; turn < m; turn++) {
            number = number * 6364136223846793005L + 1442695040888963407L;
            int r = (int) (number >>> 33);
            try {
                doTurn(x, r % 8, r / 8);
            } catch (IndexOutOfBoundsException | IllegalArgumentException | IllegalStateException e) {
                continue;
            }
        }
        return 1000 * x.about(3) + x.about(4) % 1000;
    }

    private static void doTurn(AirValves x, int kind, int q) {
        if (kind == 0) {
            x.valve(q % 5, 10 + q / 8 % 90);
        } else if (kind <= 2) {
            x.duct(q % 10, q / 16 % 2, q / 32 % 10, q / 512 % 2, 1 + q / 1024 % 6);
        } else if (kind == 3) {
            x.press(q % 10, q / 16 % 2 == 1);
        } else if (kind == 4 && q / 512 % 2 == 0) {
            x.leak(q % 16, q / 16 % 31);
        } else if (kind == 4) {
            x.remove(q % 16);
        } else if (kind == 5) {
            x.feed(q % 10, 10 + q / 16 % 90);
        } else {
            x.ticks(1 + q % 20);
        }
    }

    private static void simulate() {
        for (int i = 0; i < 600; i++) {
            long seed = i < 3 ? i - 1 : i * 0x9E3779B97F4A7C15L;
            int m = i % 60 + 1;
            Check.due("simulate(" + seed + ", " + m + ")", net().simulate(seed, m), byTheFace(net(), seed, m));
            Check.due("simulate(" + seed + ", 60) of nothing", new AirValves().simulate(seed, 60),
                    byTheFace(new AirValves(), seed, 60));
        }
        for (long seed : new long[] {Long.MIN_VALUE, Long.MAX_VALUE}) {
            Check.due("simulate(" + seed + ", 60)", net().simulate(seed, 60), byTheFace(net(), seed, 60));
        }
        Check.due("simulate() at its start", new AirValves().simulate(0, 1), 0);
    }

    private static void simulateOnACopy() {
        AirValves x = net();
        String before = Check.view(x);
        for (int i = 0; i < 20; i++) {
            x.simulate(i * 77777777777777L, 60);
        }
        Check.due("the state behind simulate", Check.view(x), before);
        Check.due("what is remembered behind simulate", Check.undoAll(x), 7);
        x.valve(4, 44);
        Check.due("simulate once more", x.simulate(5, 1), x.simulate(5, 1));
    }

    private static void simulateRefuses() {
        for (int m : new int[] {Integer.MIN_VALUE, -1, 0, 61, Integer.MAX_VALUE}) {
            argument("simulate(1, " + m + ")", x -> x.simulate(1, m));
        }
    }
}
