import java.math.BigInteger;

/** The edges of promises 27 and 28: runScript, simulate. */
public final class EdgeScriptTest {
    private static final int NONE = AirValves.NONE;
    private static final long[] MOST = {0, 999_999L, 999_999_999_999L, 999_999_999_999_999_999L};

    public static void main(String[] args) {
        runScriptCount();
        runScriptLength();
        runScriptZerosAhead();
        runScriptIndices();
        ticksCommand();
        pressCommand();
        leakCommand();
        feedCommand();
        setCommand();
        legCommand();
        pushCommand();
        restCommand();
        sideCommand();
        otherCommands();
        eachDigitOfEachCommand();
        commandsInEmptyAndFullNets();
        runScriptChangesNothing();
        simulateRange();
        simulateOverflows();
        simulateFromEmptyAndFullNets();
        simulateChangesNothing();
        Check.end("EdgeScriptTest");
    }

    private static void group(int group, boolean succeeds) {
        Edge.due("runScript(1, " + group + ")", Edge::rich, x -> x.runScript(1, group), succeeds ? NONE : 0);
    }

    private static void good(int... groups) {
        for (int group : groups) {
            group(group, true);
        }
    }

    private static void bad(int... groups) {
        for (int group : groups) {
            group(group, false);
        }
    }

    private static void script(int n, long script, int due) {
        Edge.due("runScript(" + n + ", " + script + ")", Edge::rich, x -> x.runScript(n, script), due);
    }

    // ---- promise 27

    private static void runScriptCount() {
        for (int n : Edge.outside(1, 3)) {
            for (long script : new long[] {0, 800000, 100001, MOST[3], -1, Long.MAX_VALUE, Long.MIN_VALUE}) {
                Edge.argument("runScript(" + n + ", " + script + ")", Edge::rich, x -> x.runScript(n, script));
            }
        }
        script(1, 100001, NONE);
        script(2, 100001_100001L, NONE);
        script(3, 100001_100001_100001L, NONE);
    }

    private static void runScriptLength() {
        for (int n = 1; n <= 3; n++) {
            int count = n;
            script(n, MOST[n], 0);
            script(n, 0, 0);
            long[] refused = {MOST[n] + 1, MOST[n] + 100002, 10 * (MOST[n] + 1), Long.MAX_VALUE, Long.MAX_VALUE - 1,
                -1, -100001, -MOST[n], Long.MIN_VALUE, Long.MIN_VALUE + 1};
            for (long script : refused) {
                Edge.argument("runScript(" + n + ", " + script + ")", Edge::rich, x -> x.runScript(count, script));
            }
        }
        Edge.argument("runScript(1, 100001 and 2 to the 32nd)", Edge::rich, x -> x.runScript(1, 100001 + (1L << 32)));
        Edge.argument("runScript(2, three commands)", Edge::rich, x -> x.runScript(2, 100001_100001_100001L));
        Edge.argument("runScript(1, two commands)", Edge::rich, x -> x.runScript(1, 100001_100001L));
    }

    /** With fewer digits the first group begins with zeros; none of its kinds begins with 0. */
    private static void runScriptZerosAhead() {
        script(1, 99999, 0);
        script(1, 1, 0);
        script(2, 100001, 0);
        script(2, 999999, 0);
        script(2, 1000000, 0);
        script(3, 100001_100001L, 0);
        script(3, MOST[2], 0);
        script(2, 100001_000000L, 1);
        script(2, 100001_000001L, 1);
        script(3, 100001_100001_000000L, 2);
        script(3, 100001_000000_100001L, 1);
    }

    private static void runScriptIndices() {
        script(1, 100000, 0);
        script(2, 100000_100000L, 0);
        script(2, 100001_100000L, 1);
        script(3, 100000_100001_100001L, 0);
        script(3, 100001_100000_100000L, 1);
        script(3, 100001_100001_100000L, 2);
        script(3, 100001_100001_100001L, NONE);
    }

    private static void ticksCommand() {
        good(100001, 100002, 100098, 100099);
        bad(100000, 100100, 101001, 110001, 199999);
    }

    private static void pressCommand() {
        good(200000, 201000, 210000, 211000);
        bad(202000, 203000, 209000, 212000, 219000);
        bad(220000, 230000, 240000, 250000, 251000);
        bad(260000, 261000, 290000, 291000);
        bad(200001, 200010, 200100, 201001, 201010, 201100, 200009, 200090, 200900);
    }

    private static void leakCommand() {
        good(300000, 300001, 300029, 300030, 304000, 304030);
        bad(300031, 300032, 300099, 304031, 305000, 305030, 306000, 309000, 310000, 314000, 340000, 399030);
        bad(300100, 300900, 304130);
    }

    private static void feedCommand() {
        good(400010, 400011, 400098, 400099, 450010, 450099);
        bad(400000, 400001, 400009, 450009, 460010, 460099, 490050);
        bad(400110, 401010, 409010, 400910, 451099);
    }

    private static void setCommand() {
        good(500000, 500001, 500008, 500009, 510005, 510006, 510089, 510090);
        bad(500010, 500099, 510000, 510004, 510091, 510099, 520000, 520005, 590009);
        bad(500100, 501000, 509000, 500900, 511005, 510105);
    }

    /** The leg 0 of the valve 0 has 90, the leg 1 has 0; the leg 1 of the valve 5 has 30. */
    private static void legCommand() {
        good(600000, 600001, 600089, 600090, 601000, 650000, 651000, 651029, 651030);
        bad(600091, 600099, 601001, 650001, 651031, 660000, 661000, 690000);
        bad(602000, 609000, 652000, 600100, 600900, 651130);
        AirValves most = new AirValves();
        most.valve(0, 99);
        most.ticks(1);
        Check.due("at least 99 of 99", most.runScript(1, 601099), NONE);
        most.feed(0, 98);
        most.ticks(1);
        Check.due("at least 99 of 98", most.runScript(1, 601099), 0);
    }

    /** The push 0 of the valve 2 works, by 74 of 50; no other one of the first valves does. */
    private static void pushCommand() {
        Edge.due("push(2, 0, 1)", Edge::rich, x -> x.push(2, 0, 1), 1);
        Edge.due("push(2, 1, 1)", Edge::rich, x -> x.push(2, 1, 1), 0);
        good(720001, 721000, 700000, 701000, 750000, 751000);
        bad(720000, 721001, 700001, 750001);
        bad(720002, 720009, 721002, 721009, 700002);
        bad(760000, 761000, 790001, 722000, 722001, 729000, 702000);
        bad(720101, 720011, 721100, 721010, 720901, 720091);
    }

    private static void restCommand() {
        Edge.due("runScript(1, 800000) at rest", EdgeScriptTest::atRest, x -> x.runScript(1, 800000), NONE);
        Edge.due("runScript(1, 800000) not at rest", EdgeScriptTest::tickAhead, x -> x.runScript(1, 800000), 0);
        Edge.due("a tick ahead of rest", EdgeScriptTest::tickAhead, x -> x.runScript(2, 100001_800000L), NONE);
        Edge.due("two ticks ahead of rest", EdgeScriptTest::twoTicksAhead, x -> x.runScript(2, 100001_800000L), 1);
        Edge.due("two ticks of two", EdgeScriptTest::twoTicksAhead, x -> x.runScript(2, 100002_800000L), NONE);
        Edge.due("asked twice ahead of rest", EdgeScriptTest::tickAhead, x -> x.runScript(3, 500002_800000_800000L), 1);
        Edge.due("asked twice at rest", EdgeScriptTest::atRest, x -> x.runScript(3, 800000_800000_800000L), NONE);
        Edge.due("a new object", AirValves::new, x -> x.runScript(1, 800000), NONE);
        for (int group : new int[] {800001, 800009, 800010, 800090, 800100, 801000, 810000, 890000, 899999}) {
            Edge.due("runScript(1, " + group + ")", EdgeScriptTest::atRest, x -> x.runScript(1, group), 0);
        }
    }

    private static AirValves twoTicksAhead() {
        AirValves x = new AirValves();
        x.valve(0, 50);
        x.duct(0, 1, 0, 0, 1);
        return x;
    }

    private static AirValves tickAhead() {
        AirValves x = twoTicksAhead();
        x.ticks(1);
        return x;
    }

    private static AirValves atRest() {
        AirValves x = twoTicksAhead();
        x.ticks(2);
        return x;
    }

    /** The keys 0 and 1 are pressed; the jet at a wall, the valve 3, sticks to the leg that is told. */
    private static void sideCommand() {
        int side = Edge.rich().valveOf(3, 2);
        good(900001, 910001, 920000, 930000 + side, 940000, 950000);
        bad(900000, 910000, 920001, 930001 - side, 940001, 950001, 960000, 960001, 990000);
        bad(900002, 900009, 920002, 930002, 930009);
        bad(900011, 900101, 901001, 920010, 920100, 921000, 909001, 900901, 900091);
    }

    private static void otherCommands() {
        bad(0, 1, 9, 10, 100, 1000, 10000, 10001, 80000, 90000, 99999, 999999);
    }

    /** Each kind of group with each digit at each place, as its row of the document says. */
    private static void eachDigitOfEachCommand() {
        int[] groups = {100011, 200000, 303017, 430050, 510050, 600010, 720001, 800000, 930000};
        for (int group : groups) {
            for (int place = 1; place < 100000; place *= 10) {
                for (int digit = 0; digit <= 9; digit++) {
                    int other = group - group / place % 10 * place + digit * place;
                    group(other, isAllowed(other));
                }
            }
        }
    }

    private static boolean isAllowed(int group) {
        AirValves x = Edge.rich();
        String digits = Integer.toString(group);
        int v = digits.charAt(1) - '0';
        int third = digits.charAt(2) - '0';
        int last = digits.charAt(5) - '0';
        int pair = group % 100;
        if (digits.matches("1000..")) {
            return pair >= 1;
        }
        if (digits.matches("2.[01]000")) {
            return v <= 1;
        }
        if (digits.matches("3..0..")) {
            return Integer.parseInt(digits.substring(1, 3)) <= 4 && pair <= 30;
        }
        if (digits.matches("4.00..")) {
            return v <= 5 && pair >= 10;
        }
        if (digits.matches("5.00..")) {
            return v == 0 && pair <= 9 || v == 1 && pair >= 5 && pair <= 90;
        }
        if (digits.matches("6.[01]0..")) {
            return v <= 5 && x.leg(v, third) >= pair;
        }
        if (digits.matches("7.[01]00.")) {
            return v <= 5 && x.push(v, third, 1) == last;
        }
        if (digits.matches("800000")) {
            return x.restIn() == 0;
        }
        return digits.matches("9.000.") && v <= 5 && x.valveOf(v, 2) == last;
    }

    private static void commandsInEmptyAndFullNets() {
        for (int group : new int[] {200000, 300000, 400010, 600000, 700000, 900000}) {
            Edge.due("new: runScript(1, " + group + ")", AirValves::new, x -> x.runScript(1, group), 0);
        }
        for (int group : new int[] {100099, 500000, 510090, 800000}) {
            Edge.due("new: runScript(1, " + group + ")", AirValves::new, x -> x.runScript(1, group), NONE);
        }
        for (int group : new int[] {250000, 315030, 310000, 490099, 690000, 691000, 900001, 990000}) {
            Edge.due("full: runScript(1, " + group + ")", Edge::full, x -> x.runScript(1, group), NONE);
        }
        for (int group : new int[] {290000, 316000, 316030, 320000, 399000, 900000, 990001}) {
            Edge.due("full: runScript(1, " + group + ")", Edge::full, x -> x.runScript(1, group), 0);
        }
    }

    private static void runScriptChangesNothing() {
        long[] scripts = {0, 100099, 200000, 300030, 400010, 500009, 510090, 600000, 720001, 800000, 900001,
            100099_200000L, 400099_300030_100099L, 500009_510005_100050L, 201000_100001_999999L};
        for (long script : scripts) {
            int n = script > MOST[2] ? 3 : script > MOST[1] ? 2 : 1;
            Edge.unchanged("runScript(" + n + ", " + script + ")", Edge::rich, x -> x.runScript(n, script));
        }
        Edge.unchanged("full: runScript", Edge::full, x -> x.runScript(3, 315030_490010_100099L));
    }

    // ---- promise 28

    private static void simulateRange() {
        for (int m : Edge.outside(1, 60)) {
            for (long seed : new long[] {0, -1, Long.MIN_VALUE, Long.MAX_VALUE}) {
                Edge.argument("simulate(" + seed + ", " + m + ")", Edge::rich, x -> x.simulate(seed, m));
            }
        }
        for (int m : new int[] {1, 2, 59, 60}) {
            for (long seed = -20; seed <= 20; seed++) {
                simulated(seed, m);
            }
        }
    }

    private static void simulateOverflows() {
        long[] seeds = {Long.MIN_VALUE, Long.MIN_VALUE + 1, Long.MAX_VALUE, Long.MAX_VALUE - 1, Integer.MIN_VALUE,
            Integer.MAX_VALUE, 1L << 31, 1L << 32, 1L << 33, 1L << 62, -(1L << 33), 6364136223846793005L,
            -1442695040888963407L};
        for (long seed : seeds) {
            for (int m : new int[] {1, 2, 3, 30, 60}) {
                simulated(seed, m);
            }
        }
    }

    /** The numbers without any long that overflows, and the turns by the calls of the face. */
    private static void simulated(long seed, int m) {
        Edge.due("simulate(" + seed + ", " + m + ")", Edge::rich, x -> x.simulate(seed, m),
                byTheFace(Edge.rich(), seed, m));
    }

    private static int byTheFace(AirValves x, long seed, int m) {
        BigInteger all = BigInteger.ONE.shiftLeft(64);
        BigInteger number = BigInteger.valueOf(seed).mod(all);
        for (int turn = 0; turn < m; turn++) {
            number = number.multiply(new BigInteger("6364136223846793005"))
                    .add(new BigInteger("1442695040888963407")).mod(all);
            int r = number.shiftRight(33).intValueExact();
            Edge.outcome(x, y -> turn(y, r % 8, r / 8));
        }
        int active = 0;
        int pressures = 0;
        for (int v = 0; v < x.about(0); v++) {
            for (int leg = 0; leg <= 1; leg++) {
                active += x.leg(v, leg) > 0 ? 1 : 0;
                pressures += x.leg(v, leg);
            }
        }
        return 1000 * active + pressures % 1000;
    }

    private static int turn(AirValves x, int kind, int q) {
        return switch (kind) {
            case 0 -> x.valve(q % 5, 10 + q / 8 % 90);
            case 1, 2 -> x.duct(q % 10, q / 16 % 2, q / 32 % 10, q / 512 % 2, 1 + q / 1024 % 6);
            case 3 -> x.press(q % 10, q / 16 % 2 == 1);
            case 4 -> q / 512 % 2 == 0 ? x.leak(q % 16, q / 16 % 31) : x.remove(q % 16);
            case 5 -> x.feed(q % 10, 10 + q / 16 % 90);
            default -> x.ticks(1 + q % 20);
        };
    }

    /** In an empty net most turns are left out at first, in a full one those of valve and duct are. */
    private static void simulateFromEmptyAndFullNets() {
        for (int i = 0; i < 60; i++) {
            long seed = i * 0x9E3779B97F4A7C15L;
            int m = 60 - i % 3;
            Edge.due("new: simulate(" + seed + ", " + m + ")", AirValves::new, x -> x.simulate(seed, m),
                    byTheFace(new AirValves(), seed, m));
            Edge.due("full: simulate(" + seed + ", " + m + ")", Edge::full, x -> x.simulate(seed, m),
                    byTheFace(Edge.full(), seed, m));
        }
        for (long seed = 0; seed < 60; seed++) {
            long asked = seed;
            Edge.due("ten keys of 99: simulate(" + seed + ", 1)", EdgeScriptTest::tenKeys, x -> x.simulate(asked, 1),
                    byTheFace(tenKeys(), seed, 1));
        }
    }

    private static AirValves tenKeys() {
        AirValves x = new AirValves();
        for (int v = 0; v < 10; v++) {
            x.valve(0, 99);
        }
        x.ticks(1);
        return x;
    }

    private static void simulateChangesNothing() {
        for (long seed : new long[] {0, 1, Long.MIN_VALUE, Long.MAX_VALUE}) {
            Edge.unchanged("simulate(" + seed + ", 60)", Edge::rich, x -> x.simulate(seed, 60));
            Edge.unchanged("full: simulate(" + seed + ", 60)", Edge::full, x -> x.simulate(seed, 60));
            Edge.unchanged("new: simulate(" + seed + ", 60)", AirValves::new, x -> x.simulate(seed, 60));
        }
    }
}
