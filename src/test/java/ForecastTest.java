import java.util.function.Supplier;
import java.util.function.ToIntFunction;

/** Promises 21 to 26: restIn, beat, rule, ifLeak, suspect, tightest. */
public final class ForecastTest {
    private static final int NONE = AirValves.NONE;
    private static final int[] NO_VALVES = {Integer.MIN_VALUE, -1, 4, 10, Integer.MAX_VALUE};

    public static void main(String[] args) {
        restIn();
        restOfWhatIsInDucts();
        restAtTheEdge();
        beat();
        beatByHistory();
        beatRefuses();
        rule();
        ruleByTheLeast();
        ruleFromNowOn();
        ruleAtRest();
        ruleRefuses();
        ifLeak();
        ifLeakRefuses();
        suspect();
        suspectRefuses();
        tightest();
        tightestOfHopeless();
        tightestOfTheLeast();
        nothingChanges();
        Check.end("ForecastTest");
    }

    /** The keys 0 and 1, and a valve 2 that they push by a duct of length 1 each. */
    private static AirValves pushedByKeys(int kind) {
        AirValves x = new AirValves();
        x.valve(0, 90);
        x.valve(0, 90);
        x.valve(kind, 60);
        x.duct(0, 0, 2, 0, 1);
        x.duct(1, 0, 2, 1, 1);
        return x;
    }

    /** The same, with a jet 3 that its own leg 0 pushes by the duct 2: it beats. */
    private static AirValves beating() {
        AirValves x = pushedByKeys(1);
        x.valve(1, 80);
        x.duct(3, 0, 3, 0, 4);
        return x;
    }

    /**
     * A pulse goes round in a meeting, by 1 less each 6 ticks, and pushes a jet until it is too weak;
     * its key is pressed for a single tick.
     */
    private static AirValves fading() {
        AirValves x = new AirValves();
        x.set(0, 0);
        x.valve(0, 60);
        x.valve(3, 10);
        x.valve(1, 99);
        x.duct(0, 0, 1, 1, 1);
        x.duct(1, 1, 1, 0, 6);
        x.duct(1, 1, 2, 1, 1);
        x.leak(1, 1);
        x.press(0, true);
        x.ticks(1);
        x.press(0, false);
        return x;
    }

    private static void restIn() {
        AirValves x = new AirValves();
        x.valve(0, 20);
        Check.due("restIn() ahead of the first tick", x.restIn(), 1);
        x.ticks(1);
        Check.due("restIn() behind it", x.restIn(), 0);
        x.press(0, true);
        Check.due("restIn() behind a press", x.restIn(), 1);
        x.press(0, false);
        Check.due("restIn() behind a press taken back", x.restIn(), 0);
        x.feed(0, 21);
        Check.due("restIn() behind a feed", x.restIn(), 1);
        AirValves silent = new AirValves();
        silent.valve(3, 20);
        Check.due("restIn() of a meeting without air", silent.restIn(), 0);
        silent.duct(0, 1, 0, 1, 6);
        Check.due("restIn() with a duct without air", silent.restIn(), 0);
        AirValves wall = pushedByKeys(2);
        wall.press(0, true);
        wall.ticks(30);
        wall.press(0, false);
        wall.ticks(30);
        Check.due("restIn() of a jet that sticks", wall.restIn(), 0);
        wall.press(1, true);
        Check.due("restIn() of a jet that will go over", wall.restIn(), 2);
        Check.due("restIn() of a jet that beats", beating().restIn(), NONE);
    }

    /** The last thing that becomes different is what stands in the last place of a duct, or its push. */
    private static void restOfWhatIsInDucts() {
        for (int length = 1; length <= 6; length++) {
            AirValves x = new AirValves();
            x.valve(0, 20);
            x.valve(0, 50);
            x.duct(0, 1, 1, 0, length);
            Check.due(length + ": restIn() until the push has it", x.restIn(), 1 + length);
            x.leak(0, 30);
            Check.due(length + ": restIn() until the duct is full", x.restIn(), length);
            x.ticks(length - 1 > 0 ? length - 1 : 1);
            Check.due(length + ": restIn() ahead of that", x.restIn(), length > 1 ? 1 : 0);
            x.ticks(9);
            Check.due(length + ": restIn() at rest", x.restIn(), 0);
            x.leak(0, 0);
            Check.due(length + ": restIn() without the leak", x.restIn(), 1);
        }
    }

    private static void restAtTheEdge() {
        AirValves x = fading();
        int gone = 0;
        while (gone < 200 && x.restIn() == NONE) {
            x.ticks(1);
            gone++;
        }
        Check.due("restIn() as it first tells", x.restIn(), 300);
        Check.due("there were ticks ahead of that", gone > 0 && gone < 200 ? 1 : 0, 1);
        x.undo();
        Check.due("restIn() a tick ahead of that", x.restIn(), NONE);
        x.ticks(3);
        Check.due("restIn() two ticks behind that", x.restIn(), 298);
        x.ticks(99);
        x.ticks(99);
        x.ticks(99);
        Check.due("restIn() a tick ahead of rest", x.restIn(), 1);
        x.ticks(1);
        Check.due("restIn() at rest", x.restIn(), 0);
    }

    private static void beat() {
        for (int length = 1; length <= 6; length++) {
            AirValves x = new AirValves();
            x.valve(1, 80);
            x.duct(0, 0, 0, length % 2, length);
            Check.due("a jet by itself, length " + length, x.beat(0), 2 * length);
            x.ticks(7);
            Check.due("7 ticks later, length " + length, x.beat(0), 2 * length);
            x.leak(0, 80 - 24 - 2 * length > 30 ? 30 : 80 - 24 - 2 * length);
            Check.due("just strong enough, length " + length, x.beat(0), 2 * length);
            x.set(1, 90);
            Check.due("too weak, length " + length, x.beat(0), NONE);
        }
        AirValves still = beating();
        Check.due("beat of a key", still.beat(0), NONE);
        Check.due("beat of a jet that is not pushed", still.beat(2), NONE);
        Check.due("beat of a jet beside those", still.beat(3), 8);
        still.press(0, true);
        Check.due("beat of a jet that goes off once", still.beat(2), NONE);
    }

    /** The leg 0 of the valve v in each tick, and what beat has to tell in each of the first ticks. */
    private static void byHistory(String what, Supplier<AirValves> made, int v, int starts) {
        int[] history = new int[starts + 301];
        AirValves x = made.get();
        for (int tick = 0; tick < history.length; tick++) {
            if (tick % 100 == 0) {
                x = later(made, tick);
            }
            history[tick] = x.leg(v, 0);
            x.ticks(1);
        }
        for (int start = 0; start < starts; start++) {
            int rise = NONE;
            int due = NONE;
            for (int tick = start + 101; tick <= start + 300 && due == NONE; tick++) {
                if (history[tick] > 0 && history[tick - 1] == 0) {
                    due = rise == NONE ? NONE : tick - rise;
                    rise = tick;
                }
            }
            Check.due(what + ": beat(" + v + ") behind " + start, later(made, start).beat(v), due);
        }
    }

    private static AirValves later(Supplier<AirValves> made, int ticks) {
        AirValves x = made.get();
        for (int gone = 0; gone < ticks; gone += 50) {
            x.ticks(Math.min(50, ticks - gone));
        }
        return x;
    }

    private static void beatByHistory() {
        byHistory("a pulse that fades", ForecastTest::fading, 2, 220);
        byHistory("a jet by itself", ForecastTest::beating, 3, 20);
        byHistory("a long ring", ForecastTest::ring, 0, 130);
        byHistory("a beat by a pressure of 1", ForecastTest::least, 2, 4);
        beatOfTheRing();
        Check.due("the beat by a pressure of 1", least().beat(2), 4);
        byHistory("two loops", ForecastTest::twoLoops, 0, 60);
        byHistory("two loops, the other jet", ForecastTest::twoLoops, 1, 60);
    }

    /** The leg 0 of the first jet gets air in the ticks 1, 67, 187, 307, 427. */
    private static void beatOfTheRing() {
        int[] starts = {6, 7, 86, 87};
        int[] due = {NONE, 120, 120, NONE};
        for (int i = 0; i < starts.length; i++) {
            AirValves x = ring();
            x.ticks(starts[i]);
            Check.due("the beat of a long ring behind " + starts[i], x.beat(0), due[i]);
        }
    }

    /** Ten jets, each pushes the next one in 6 ticks; the last one turns it round: 60 ticks on, 60 off. */
    private static AirValves ring() {
        AirValves x = new AirValves();
        for (int v = 0; v < 10; v++) {
            x.valve(1, 99);
        }
        for (int v = 0; v < 10; v++) {
            x.duct(v, v == 9 ? 0 : 1, (v + 1) % 10, 0, 6);
        }
        return x;
    }

    /** A jet that beats gives a meeting 1 at times, and the key 1 gives it always some: its leg 0 has 1. */
    private static AirValves least() {
        AirValves x = new AirValves();
        x.valve(1, 30);
        x.valve(0, 20);
        x.valve(3, 10);
        x.duct(0, 0, 0, 0, 2);
        x.duct(0, 0, 2, 0, 1);
        x.duct(1, 1, 2, 1, 1);
        x.set(0, 0);
        x.leak(1, 29);
        return x;
    }

    /** Two jets that push each other and themselves, by ducts of several lengths. */
    private static AirValves twoLoops() {
        AirValves x = new AirValves();
        x.valve(1, 80);
        x.valve(2, 70);
        x.duct(0, 0, 1, 0, 5);
        x.duct(0, 1, 1, 1, 6);
        x.duct(1, 0, 0, 0, 3);
        x.duct(0, 0, 0, 1, 2);
        return x;
    }

    private static void index(String what, ToIntFunction<AirValves> call) {
        AirValves x = beating();
        Check.index(x, what, () -> call.applyAsInt(x));
    }

    private static void argument(String what, ToIntFunction<AirValves> call) {
        AirValves x = beating();
        Check.argument(x, what, () -> call.applyAsInt(x));
    }

    private static void beatRefuses() {
        for (int v : NO_VALVES) {
            index("beat(" + v + ")", x -> x.beat(v));
        }
    }

    private static void rule() {
        int[] due = {0, 1, 13, 8, 14};
        for (int kind = 1; kind <= 4; kind++) {
            for (int pressed = 0; pressed < 4; pressed++) {
                AirValves x = pushedByKeys(kind);
                x.press(0, pressed % 2 == 1);
                x.press(1, pressed / 2 == 1);
                Check.due("rule of the kind " + kind, x.rule(0, 1, 2), due[kind]);
                Check.due("rule of the key 0, kind " + kind, x.rule(0, 1, 0), 10);
                Check.due("rule of the key 1, kind " + kind, x.rule(0, 1, 1), 12);
                Check.due("rule of the key 1, as the first, kind " + kind, x.rule(1, 0, 1), 10);
                Check.due("the keys behind a rule, kind " + kind, x.about(5), pressed);
            }
        }
        AirValves x = pushedByKeys(1);
        x.valve(0, 50);
        x.press(2 + 1, true);
        Check.due("rule of a third key that is pressed", x.rule(0, 1, 3), 15);
        x.press(3, false);
        Check.due("rule of a third key that is not pressed", x.rule(0, 1, 3), 0);
        x.leak(0, 30);
        x.feed(0, 50);
        x.feed(2, 99);
        Check.due("rule with a leak that is too great", x.rule(0, 1, 2), 3);
    }

    /** A key of 10 gives a meeting 1, the other one 11: the leg 0 has 1 if both are pressed. */
    private static void ruleByTheLeast() {
        AirValves x = new AirValves();
        x.valve(0, 10);
        x.valve(0, 20);
        x.valve(3, 50);
        x.set(0, 9);
        x.duct(0, 0, 2, 0, 1);
        x.duct(1, 0, 2, 1, 1);
        Check.due("rule by a pressure of 1", x.rule(0, 1, 2), 8);
        x.leak(0, 1);
        Check.due("rule by a pressure of 0", x.rule(0, 1, 2), 0);
    }

    /** A jet at a wall that sticks to the leg 1 now. */
    private static void ruleFromNowOn() {
        AirValves x = pushedByKeys(2);
        x.press(0, true);
        x.ticks(2);
        x.press(0, false);
        Check.due("rule of a jet that went over", x.rule(0, 1, 2), 4);
        x.undo();
        x.undo();
        x.undo();
        Check.due("rule of a jet that did not", x.rule(0, 1, 2), 13);
    }

    /** It tells NONE if in any of the four cases the net is not at rest behind 60 ticks. */
    private static void ruleAtRest() {
        Check.due("rule in a net that beats", beating().rule(0, 1, 2), NONE);
        for (int stop = 0; stop <= 1; stop++) {
            AirValves x = beating();
            x.duct(stop, 0, 3, 1, 1);
            Check.due("rule in a net that the key " + stop + " brings to rest", x.rule(0, 1, 2), NONE);
            x.duct(1 - stop, 0, 3, 1, 1);
            Check.due("rule if both do, but not none", x.rule(0, 1, 2), NONE);
            x.duct(stop, 1, 3, 1, 1);
            Check.due("rule if there is always one", x.rule(0, 1, 2), 1);
        }
        ruleBehind60();
    }

    /** A pulse of 30 fades; the rule is told as soon as 60 ticks are enough for that. */
    private static void ruleBehind60() {
        AirValves x = new AirValves();
        x.set(0, 0);
        x.valve(0, 30);
        x.valve(0, 30);
        x.valve(3, 10);
        x.duct(0, 0, 2, 1, 1);
        x.duct(2, 1, 2, 0, 6);
        x.leak(1, 1);
        x.press(0, true);
        x.ticks(1);
        x.press(0, false);
        x.ticks(1);
        x.remove(0);
        int told = 0;
        for (int tick = 0; tick < 200 && told < 3; tick++) {
            int rest = x.restIn();
            Check.due("rule with " + rest + " ticks to rest", x.rule(0, 1, 0), rest <= 60 ? 10 : NONE);
            told += rest <= 60 ? 1 : 0;
            x.ticks(1);
        }
        Check.due("the rule was told at last", told, 3);
    }

    private static void ruleRefuses() {
        for (int v : NO_VALVES) {
            index("rule(" + v + ", 1, 2)", x -> x.rule(v, 1, 2));
            index("rule(0, " + v + ", 2)", x -> x.rule(0, v, 2));
            index("rule(0, 1, " + v + ")", x -> x.rule(0, 1, v));
            index("rule(" + v + ", " + v + ", 2)", x -> x.rule(v, v, 2));
            index("rule(0, 0, " + v + ")", x -> x.rule(0, 0, v));
            index("rule(0, 2, " + v + ")", x -> x.rule(0, 2, v));
        }
        argument("rule(0, 0, 2)", x -> x.rule(0, 0, 2));
        argument("rule(1, 1, 0)", x -> x.rule(1, 1, 0));
        argument("rule(0, 2, 2)", x -> x.rule(0, 2, 2));
        argument("rule(3, 1, 2)", x -> x.rule(3, 1, 2));
        argument("rule(2, 3, 0)", x -> x.rule(2, 3, 0));
    }

    /** The jet 3 has 80, and works by 24; its duct of length 4 loses 8. */
    private static void ifLeak() {
        AirValves x = beating();
        x.feed(3, 50);
        Check.due("ifLeak with the greatest leak that does not matter", x.ifLeak(2, 27, 3), 8);
        Check.due("ifLeak with the least one that does", x.ifLeak(2, 28, 3), NONE);
        Check.due("ifLeak of another duct", x.ifLeak(0, 30, 3), 8);
        Check.due("ifLeak of another valve", x.ifLeak(2, 0, 2), NONE);
        Check.due("the leak behind that", x.ductOf(2, 5), 0);
        x.leak(2, 30);
        Check.due("beat with the leak", x.beat(3), NONE);
        Check.due("ifLeak with none", x.ifLeak(2, 0, 3), 8);
        Check.due("ifLeak with that leak", x.ifLeak(2, 30, 3), NONE);
        Check.due("the leak behind that", x.ductOf(2, 5), 30);
        x.duct(3, 0, 3, 1, 6);
        Check.due("another duct goes on", x.ifLeak(2, 30, 3), 12);
        Check.due("the nearer duct again", x.ifLeak(2, 5, 3), twoDucts(5));
    }

    private static int twoDucts(int leak) {
        AirValves x = beating();
        x.feed(3, 50);
        x.leak(2, leak);
        x.duct(3, 0, 3, 1, 6);
        return x.beat(3);
    }

    private static void ifLeakRefuses() {
        for (int d : new int[] {Integer.MIN_VALUE, -1, 3, 16, Integer.MAX_VALUE}) {
            index("ifLeak(" + d + ", 1, 3)", x -> x.ifLeak(d, 1, 3));
            index("ifLeak(" + d + ", 31, 3)", x -> x.ifLeak(d, 31, 3));
        }
        for (int v : NO_VALVES) {
            index("ifLeak(2, 1, " + v + ")", x -> x.ifLeak(2, 1, v));
            index("ifLeak(2, 31, " + v + ")", x -> x.ifLeak(2, 31, v));
        }
        for (int leak : new int[] {Integer.MIN_VALUE, -1, 31, Integer.MAX_VALUE}) {
            argument("ifLeak(2, " + leak + ", 3)", x -> x.ifLeak(2, leak, 3));
        }
    }

    private static void suspect() {
        AirValves x = beating();
        x.feed(3, 50);
        Check.due("suspect of the beat as it is", x.suspect(3, 8), 0);
        Check.due("suspect of no beat", x.suspect(3, NONE), 2);
        Check.due("suspect of another beat", x.suspect(3, 12), NONE);
        Check.due("suspect of a valve without a beat", x.suspect(0, NONE), 0);
        Check.due("suspect of a valve without a beat, beating", x.suspect(0, 8), NONE);
        x.duct(3, 0, 3, 1, 6);
        Check.due("suspect of the farther duct's beat", x.suspect(3, 12), 2);
        x.leak(2, 1);
        Check.due("one that leaks is none", x.suspect(3, 12), NONE);
        x.leak(2, 0);
        x.leak(0, 1);
        Check.due("the next one that does not leak", x.suspect(3, x.beat(3)), 1);
        Check.due("suspect of 1", x.suspect(3, 1), NONE);
        Check.due("suspect of 200", x.suspect(3, 200), NONE);
        suspectByALeakAlone();
        suspectByTheLeastLeak();
    }

    /** A pulse of 30 in a loop pushes a jet for more than 100 ticks by a leak of 1, and not by more. */
    private static void suspectByTheLeastLeak() {
        AirValves x = new AirValves();
        x.set(0, 0);
        x.valve(0, 30);
        x.valve(3, 10);
        x.valve(1, 10);
        x.duct(0, 0, 1, 1, 1);
        x.duct(1, 1, 1, 0, 6);
        x.duct(1, 1, 2, 1, 1);
        x.press(0, true);
        x.ticks(1);
        x.press(0, false);
        x.ticks(1);
        x.remove(0);
        Check.due("the beat by a leak of 1", x.ifLeak(0, 1, 2), 6);
        Check.due("the beat by a leak of 2", x.ifLeak(0, 2, 2), NONE);
        x.leak(1, 1);
        Check.due("suspect by the least leak", x.suspect(2, 6), 0);
    }

    /** A leak of 0 does not count: only without any leak does this one beat; and one of 30 does. */
    private static void suspectByALeakAlone() {
        AirValves x = new AirValves();
        x.valve(1, 80);
        x.duct(0, 0, 0, 0, 4);
        x.set(1, 90);
        x.set(0, 2);
        Check.due("it beats without a leak", x.beat(0), 8);
        Check.due("a leak of 1 ends that", x.ifLeak(0, 1, 0), NONE);
        Check.due("suspect of that beat", x.suspect(0, 8), NONE);
        Check.due("suspect of none", x.suspect(0, NONE), 0);
        x.set(1, 53);
        Check.due("a leak of 29 does not end it", x.ifLeak(0, 29, 0), 8);
        Check.due("just the leak of 30 does", x.suspect(0, NONE), 0);
        x.set(1, 52);
        Check.due("a leak of 30 does not end it", x.ifLeak(0, 30, 0), 8);
        Check.due("no leak does", x.suspect(0, NONE), NONE);
        AirValves y = new AirValves();
        y.valve(0, 20);
        Check.due("suspect without ducts", y.suspect(0, NONE), NONE);
    }

    private static void suspectRefuses() {
        for (int v : NO_VALVES) {
            index("suspect(" + v + ", 8)", x -> x.suspect(v, 8));
            index("suspect(" + v + ", 0)", x -> x.suspect(v, 0));
        }
        for (int beat : new int[] {Integer.MIN_VALUE, -2, 0, 201, Integer.MAX_VALUE}) {
            argument("suspect(3, " + beat + ")", x -> x.suspect(3, beat));
        }
    }

    /** The valve 2 works by 18; the ducts of length 1 lose 2: 20 is enough. */
    private static void tightest() {
        AirValves x = pushedByKeys(1);
        Check.due("tightest() ahead of the first tick", x.tightest(), NONE);
        x.ticks(1);
        Check.due("tightest() without air in the legs", x.tightest(), NONE);
        x.press(1, true);
        Check.due("tightest() ahead of the tick", x.tightest(), NONE);
        x.ticks(1);
        Check.due("tightest() of the only one", x.tightest(), 1);
        x.press(0, true);
        x.ticks(1);
        Check.due("tightest() of two that are the same", x.tightest(), 0);
        x.leak(1, 1);
        Check.due("tightest() by a leak", x.tightest(), 1);
        x.leak(0, 2);
        Check.due("tightest() by a greater leak", x.tightest(), 0);
        x.feed(1, 10);
        x.ticks(1);
        Check.due("tightest() by what falls short", x.tightest(), 1);
        x.feed(0, 10);
        Check.due("tightest() by the legs as they are", x.tightest(), 1);
        x.ticks(1);
        Check.due("tightest() by the lower of two below 0", x.tightest(), 0);
        x.duct(0, 0, 2, 0, 6);
        Check.due("tightest() by the length", x.tightest(), 2);
        x.press(0, false);
        x.ticks(1);
        Check.due("tightest() of those with air", x.tightest(), 1);
    }

    /** A meeting has 1 in its leg 1: 98 too little for the first duct, hopeless for the second. */
    private static void tightestOfTheLeast() {
        AirValves x = new AirValves();
        x.valve(0, 10);
        x.valve(3, 50);
        x.valve(1, 99);
        x.set(0, 9);
        x.set(1, 90);
        x.duct(0, 1, 1, 0, 1);
        x.duct(1, 1, 2, 0, 1);
        x.duct(1, 1, 2, 0, 1);
        x.ticks(2);
        Check.due("the meeting has 1", x.leg(1, 1), 1);
        Check.due("the legs with air", x.about(3), 3);
        Check.due("99 is just enough", x.ductOf(1, 7), 99);
        Check.due("tightest() of 10 - 54, and of 1 - 99 twice", x.tightest(), 1);
        x.leak(2, 1);
        Check.due("tightest() of 1 - 99, and of one that is hopeless", x.tightest(), 2);
        x.remove(2);
        x.remove(0);
        x.valve(0, 20);
        Check.due("tightest() by a leg of 1 alone", x.tightest(), 0);
    }

    /** Ducts by which 99 is not enough count as -99, whatever the leg has. */
    private static void tightestOfHopeless() {
        AirValves x = new AirValves();
        x.valve(0, 99);
        x.valve(0, 10);
        x.valve(1, 99);
        x.set(1, 90);
        x.set(0, 9);
        x.duct(1, 1, 2, 0, 1);
        x.duct(0, 1, 2, 0, 2);
        x.duct(1, 1, 2, 0, 3);
        x.ticks(1);
        Check.due("99 is just enough for the first", x.ductOf(0, 7), 99);
        Check.due("and not for the second", x.ductOf(1, 7), NONE);
        Check.due("tightest() of -89, -99 and -99", x.tightest(), 1);
        x.remove(1);
        Check.due("tightest() of -89 and -99", x.tightest(), 1);
        x.remove(1);
        Check.due("tightest() of -89", x.tightest(), 0);
    }

    private static void nothingChanges() {
        AirValves x = beating();
        x.ticks(5);
        String before = Check.view(x);
        x.restIn();
        x.beat(3);
        x.rule(0, 1, 3);
        x.ifLeak(2, 30, 3);
        x.suspect(3, 77);
        x.tightest();
        Check.due("the state behind all forecasts", Check.view(x), before);
        Check.due("what is remembered behind all forecasts", Check.undoAll(x), 8);
    }
}
