import java.util.function.Supplier;

/** The edges of promises 21 to 26: restIn, beat, rule, ifLeak, suspect, tightest. */
public final class EdgeForecastTest {
    private static final int NONE = AirValves.NONE;
    private static final int[] NO_VALVES = Edge.outside(0, Edge.RICH_VALVES - 1);

    public static void main(String[] args) {
        restInOfEmptyAndFullNets();
        restInByHistory();
        restInOfEachPart();
        beatRange();
        beatWindow();
        longestBeat();
        ruleRange();
        ruleBits();
        ruleAtTheLastTick();
        ifLeakRange();
        ifLeakEdges();
        suspectRange();
        suspectEdges();
        tightestOfEmptyAndFullNets();
        tightestAtTheEdges();
        forecastsChangeNothing();
        Check.end("EdgeForecastTest");
    }

    /** A pulse that goes round in a meeting, by 1 less each 6 ticks, until it is gone. */
    private static AirValves pulse(int pressure, int ticks) {
        AirValves x = new AirValves();
        x.set(0, 0);
        x.valve(0, pressure);
        x.valve(0, 50);
        x.valve(3, 10);
        x.duct(0, 0, 2, 1, 1);
        x.duct(2, 1, 2, 0, 6);
        x.leak(1, 1);
        x.press(0, true);
        x.ticks(1);
        x.press(0, false);
        x.ticks(1);
        x.remove(0);
        for (int left = ticks; left > 0; left -= 99) {
            x.ticks(Math.min(99, left));
        }
        return x;
    }

    // ---- promise 21

    private static void restInOfEmptyAndFullNets() {
        Edge.due("restIn() of no valves", AirValves::new, AirValves::restIn, 0);
        Edge.due("restIn() of no valves behind ticks", () -> {
            AirValves x = new AirValves();
            x.ticks(99);
            return x;
        }, AirValves::restIn, 0);
        AirValves x = new AirValves();
        for (int v = 0; v < 10; v++) {
            x.valve(0, 50);
        }
        for (int d = 0; d < 16; d++) {
            x.duct(d % 10, 1, 9, 1, d == 15 ? 6 : 1);
        }
        Check.due("restIn() of a full net", x.restIn(), 6);
        x.ticks(5);
        Check.due("restIn() a tick ahead of rest", x.restIn(), 1);
        x.ticks(1);
        Check.due("restIn() at rest", x.restIn(), 0);
        x.remove(15);
        Check.due("restIn() without a duct that gave less than others", x.restIn(), 0);
    }

    /** The legs, the pushes, and what the legs had in the latest six ticks, which is in the ducts. */
    private static String picture(int tick) {
        AirValves x = pulse(60, tick);
        StringBuilder picture = new StringBuilder();
        for (int v = 0; v < x.about(0); v++) {
            for (int side = 0; side <= 1; side++) {
                picture.append(x.leg(v, side)).append(' ').append(x.push(v, side, 0)).append(' ');
            }
        }
        for (int ago = 0; ago < 6; ago++) {
            picture.append(pulse(60, tick - ago).leg(2, 1)).append(' ');
        }
        return picture.toString();
    }

    private static void restInByHistory() {
        int rest = 6;
        while (rest < 1000 && !picture(rest).equals(picture(rest + 1))) {
            rest++;
        }
        Check.due("the pulse is gone behind more than 300 ticks", rest > 310 && rest < 1000 ? 1 : 0, 1);
        for (int left : new int[] {302, 301, 300, 299, 298, 200, 100, 7, 6, 2, 1, 0}) {
            Check.due("restIn() with " + left + " ticks left", pulse(60, rest - left).restIn(),
                    left > 300 ? NONE : left);
        }
        Check.due("restIn() behind rest", pulse(60, rest + 1).restIn(), 0);
    }

    /** In turn a leg, a push, the leg of a jet at a wall, and what is in a duct is the only change. */
    private static void restInOfEachPart() {
        AirValves x = new AirValves();
        x.valve(0, 50);
        x.valve(2, 50);
        x.ticks(1);
        x.feed(0, 51);
        Check.due("a leg alone", x.restIn(), 1);
        x.ticks(1);
        x.duct(0, 1, 0, 0, 1);
        Check.due("a duct, then a push", x.restIn(), 2);
        x.ticks(1);
        Check.due("a push alone", x.restIn(), 1);
        x.ticks(1);
        x.leak(0, 30);
        x.set(0, 9);
        x.feed(0, 39);
        Check.due("a leg, what is in the duct, and the push behind that", x.restIn(), 2);
        x.ticks(2);
        Check.due("at rest by what is lost", x.restIn(), 0);
        x.feed(0, 10);
        Check.due("a leg and what is in the duct, and no push", x.restIn(), 1);
        x.ticks(1);
        x.duct(0, 1, 1, 0, 1);
        x.leak(1, 30);
        Check.due("what is in a duct alone", x.restIn(), 1);
        x.ticks(1);
        x.set(0, 0);
        Check.due("still at rest", x.restIn(), 0);
        x.leak(1, 0);
        x.set(1, 5);
        Check.due("a push, and the leg to which the jet sticks", x.restIn(), 1);
        x.ticks(1);
        Check.due("it went over", x.valveOf(1, 2), 1);
        Check.due("at rest behind that", x.restIn(), 0);
        x.press(0, false);
        Check.due("a key that is not pressed once more", x.restIn(), 0);
    }

    // ---- promise 22

    private static void beatRange() {
        for (int v : NO_VALVES) {
            Edge.index("beat(" + v + ")", Edge::rich, x -> x.beat(v));
        }
        for (int v : Edge.outside(0, 9)) {
            Edge.index("full: beat(" + v + ")", Edge::full, x -> x.beat(v));
        }
        Edge.due("beat(0)", Edge::rich, x -> x.beat(0), NONE);
        Edge.due("beat(5)", Edge::rich, x -> x.beat(5), NONE);
        AirValves x = new AirValves();
        for (int v = 0; v < 10; v++) {
            x.valve(1, 90);
        }
        x.duct(9, 0, 9, 0, 1);
        Check.due("beat(9), the shortest one", x.beat(9), 2);
        Check.due("beat(8)", x.beat(8), NONE);
    }

    /**
     * A ring of jets whose leg 0 gets air in the ticks 1, 67, 187, 307, 427 of the first one: those of
     * the ticks 101 to 300 from now count, and the first two of them.
     */
    private static void beatWindow() {
        int[] starts = {0, 6, 7, 8, 85, 86, 87, 88};
        int[] due = {NONE, NONE, 120, 120, 120, 120, NONE, NONE};
        for (int i = 0; i < starts.length; i++) {
            int gone = starts[i];
            Edge.due("beat(0) of a ring behind " + gone, () -> ring(gone), x -> x.beat(0), due[i]);
        }
        int[] rises = {1, 67, 187, 307};
        for (int rise : rises) {
            Edge.due("the ring ahead of " + rise, () -> ring(rise - 1), x -> x.leg(0, 0), 0);
            Edge.due("the ring in " + rise, () -> ring(rise), x -> x.leg(0, 0), 99);
        }
    }

    private static AirValves ring(int ticks) {
        AirValves x = new AirValves();
        for (int v = 0; v < 10; v++) {
            x.valve(1, 99);
        }
        for (int v = 0; v < 10; v++) {
            x.duct(v, v == 9 ? 0 : 1, (v + 1) % 10, 0, 6);
        }
        for (int left = ticks; left > 0; left -= 99) {
            x.ticks(Math.min(99, left));
        }
        return x;
    }

    /**
     * Pulses go round in a ring of 14 ticks and in one of 15; where they meet, the valve 9 gets one, and
     * once more 11 ticks later. So its leg 0 gets air in the ticks 4, 15, 214, 225, 424, 435.
     */
    private static AirValves pulsesThatMeet(int ticks) {
        AirValves x = new AirValves();
        x.valve(0, 99);
        for (int v = 1; v <= 9; v++) {
            x.valve(v == 7 ? 3 : 4, 99);
        }
        x.duct(0, 0, 1, 1, 1);
        x.duct(0, 0, 4, 1, 1);
        int[] next = {0, 2, 3, 1, 5, 6, 4};
        int[] length = {0, 6, 6, 2, 6, 6, 3};
        for (int v = 1; v <= 6; v++) {
            x.duct(v, 0, next[v], 0, length[v]);
        }
        x.duct(1, 0, 7, 0, 1);
        x.duct(4, 0, 7, 1, 1);
        x.duct(7, 0, 8, 0, 6);
        x.duct(7, 0, 9, 0, 1);
        x.duct(8, 0, 9, 1, 6);
        x.press(0, true);
        x.ticks(1);
        x.press(0, false);
        for (int left = ticks - 1; left > 0; left -= 99) {
            x.ticks(Math.min(99, left));
        }
        return x;
    }

    /** The longest one that there can be: from the first one of the 200 ticks to the last one. */
    private static void longestBeat() {
        int[] rises = {4, 15, 214, 225, 424, 435};
        for (int gone = 1; gone <= 230; gone++) {
            int first = NONE;
            int due = NONE;
            for (int rise : rises) {
                if (rise > gone + 100 && rise <= gone + 300 && due == NONE) {
                    due = first == NONE ? NONE : rise - first;
                    first = rise;
                }
            }
            Check.due("beat(9) behind " + gone, pulsesThatMeet(gone).beat(9), due);
        }
        Edge.due("the longest beat", () -> pulsesThatMeet(124), x -> x.beat(9), 199);
        Edge.due("a tick less", () -> pulsesThatMeet(123), x -> x.beat(9), NONE);
        Edge.due("a tick more", () -> pulsesThatMeet(125), x -> x.beat(9), NONE);
        Edge.due("ifLeak with the longest beat", () -> pulsesThatMeet(124), x -> x.ifLeak(4, 30, 9), 199);
        Edge.due("suspect with the longest beat", () -> pulsesThatMeet(124), x -> x.suspect(9, 199), 0);
        Edge.due("suspect with a longer one", () -> pulsesThatMeet(124), x -> x.suspect(9, 200), NONE);
        Edge.due("suspect a tick less", () -> pulsesThatMeet(123), x -> x.suspect(9, 199), NONE);
    }

    // ---- promise 23

    private static void ruleRange() {
        for (int v : NO_VALVES) {
            Edge.index("rule(" + v + ", 1, 0)", Edge::rich, x -> x.rule(v, 1, 0));
            Edge.index("rule(0, " + v + ", 0)", Edge::rich, x -> x.rule(0, v, 0));
            Edge.index("rule(0, 1, " + v + ")", Edge::rich, x -> x.rule(0, 1, v));
            Edge.index("rule(" + v + ", " + v + ", 0)", Edge::rich, x -> x.rule(v, v, 0));
            Edge.index("rule(0, 0, " + v + ")", Edge::rich, x -> x.rule(0, 0, v));
            Edge.index("rule(0, 2, " + v + ")", Edge::rich, x -> x.rule(0, 2, v));
            Edge.index("rule(2, " + v + ", 0)", Edge::rich, x -> x.rule(2, v, 0));
        }
        for (int v = 2; v < Edge.RICH_VALVES; v++) {
            int other = v;
            Edge.argument("rule(" + v + ", 1, 0)", Edge::rich, x -> x.rule(other, 1, 0));
            Edge.argument("rule(0, " + v + ", 0)", Edge::rich, x -> x.rule(0, other, 0));
            Edge.argument("rule(" + v + ", " + v + ", 0)", Edge::rich, x -> x.rule(other, other, 0));
        }
        Edge.argument("rule(0, 0, 0)", Edge::rich, x -> x.rule(0, 0, 0));
        Edge.argument("rule(1, 1, 5)", Edge::rich, x -> x.rule(1, 1, 5));
    }

    /** The two keys and a meeting of them, and each bit alone by which legs lead to it. */
    private static void ruleBits() {
        for (int only = 0; only < 4; only++) {
            AirValves x = new AirValves();
            x.valve(0, 90);
            x.valve(0, 90);
            x.valve(3, 50);
            x.duct(0, only % 2 == 1 ? 0 : 1, 2, 0, 6);
            x.duct(1, only / 2 == 1 ? 0 : 1, 2, 1, 6);
            x.press(0, only % 2 == 0);
            Check.due("the rule with the bit " + only + " alone", x.rule(0, 1, 2), 1 << only);
            Check.due("the keys the other way round", x.rule(1, 0, 2), 1 << (only % 2 * 2 + only / 2));
            Check.due("the first key", x.rule(0, 1, 0), 10);
            Check.due("the second key", x.rule(0, 1, 1), 12);
        }
        AirValves none = new AirValves();
        none.valve(0, 50);
        none.valve(0, 50);
        none.valve(3, 50);
        none.valve(1, 50);
        Check.due("the rule of what never has air", none.rule(0, 1, 2), 0);
        Check.due("the rule of what always has air", none.rule(0, 1, 3), 15);
        Check.due("a rule of one of the keys itself", none.rule(1, 0, 1), 10);
    }

    /** The net is at rest behind just 60 ticks, and is not behind 59. */
    private static void ruleAtTheLastTick() {
        int[] told = {NONE, NONE, 10, 10, 10};
        for (int i = 0; i < told.length; i++) {
            int left = 62 - i;
            int gone = 0;
            while (gone < 300 && pulse(30, gone).restIn() != left) {
                gone++;
            }
            Check.due("restIn() of it", pulse(30, gone).restIn(), left);
            Check.due("the rule with " + left + " ticks to rest", pulse(30, gone).rule(0, 1, 0), told[i]);
        }
    }

    // ---- promise 24

    private static void ifLeakRange() {
        for (int d : Edge.outside(0, Edge.RICH_DUCTS - 1)) {
            Edge.index("ifLeak(" + d + ", 0, 0)", Edge::rich, x -> x.ifLeak(d, 0, 0));
            Edge.index("ifLeak(" + d + ", 31, 0)", Edge::rich, x -> x.ifLeak(d, 31, 0));
            Edge.index("ifLeak(" + d + ", -1, 6)", Edge::rich, x -> x.ifLeak(d, -1, 6));
        }
        for (int v : NO_VALVES) {
            Edge.index("ifLeak(0, 0, " + v + ")", Edge::rich, x -> x.ifLeak(0, 0, v));
            Edge.index("ifLeak(0, 31, " + v + ")", Edge::rich, x -> x.ifLeak(0, 31, v));
            Edge.index("ifLeak(0, -1, " + v + ")", Edge::rich, x -> x.ifLeak(0, -1, v));
        }
        for (int leak : Edge.outside(0, 30)) {
            Edge.argument("ifLeak(0, " + leak + ", 0)", Edge::rich, x -> x.ifLeak(0, leak, 0));
            Edge.argument("ifLeak(4, " + leak + ", 5)", Edge::rich, x -> x.ifLeak(4, leak, 5));
        }
        Edge.due("full: ifLeak(15, 30, 9)", Edge::full, x -> x.ifLeak(15, 30, 9) == withLeak(15, 30, 9) ? 1 : 0, 1);
    }

    private static int withLeak(int d, int leak, int v) {
        AirValves x = Edge.full();
        x.leak(d, leak);
        return x.beat(v);
    }

    /** A jet of 50 by itself through a duct of length 4: 50 - 8 - 27 is the least that works. */
    private static AirValves jet() {
        AirValves x = new AirValves();
        x.valve(1, 50);
        x.duct(0, 0, 0, 0, 4);
        return x;
    }

    private static void ifLeakEdges() {
        int[] leaks = {0, 1, 26, 27, 28, 29, 30};
        for (int leak : leaks) {
            Edge.due("ifLeak(0, " + leak + ", 0)", EdgeForecastTest::jet, x -> x.ifLeak(0, leak, 0),
                    leak <= 27 ? 8 : NONE);
            Edge.due("ifLeak(0, " + leak + ", 0) of one that leaks", () -> {
                AirValves x = jet();
                x.leak(0, 30);
                return x;
            }, x -> x.ifLeak(0, leak, 0), leak <= 27 ? 8 : NONE);
        }
        Edge.unchanged("ifLeak(0, 30, 0)", EdgeForecastTest::jet, x -> x.ifLeak(0, 30, 0));
    }

    // ---- promise 25

    private static void suspectRange() {
        for (int v : NO_VALVES) {
            Edge.index("suspect(" + v + ", 1)", Edge::rich, x -> x.suspect(v, 1));
            Edge.index("suspect(" + v + ", NONE)", Edge::rich, x -> x.suspect(v, NONE));
            Edge.index("suspect(" + v + ", 0)", Edge::rich, x -> x.suspect(v, 0));
            Edge.index("suspect(" + v + ", 201)", Edge::rich, x -> x.suspect(v, 201));
            Edge.index("suspect(" + v + ", -2)", Edge::rich, x -> x.suspect(v, -2));
        }
        for (int beat : new int[] {Integer.MIN_VALUE, -99, -2, 0, 201, Integer.MAX_VALUE}) {
            Edge.argument("suspect(0, " + beat + ")", Edge::rich, x -> x.suspect(0, beat));
            Edge.argument("suspect(5, " + beat + ")", Edge::rich, x -> x.suspect(5, beat));
        }
        Edge.due("suspect(0, 1)", EdgeForecastTest::jet, x -> x.suspect(0, 1), NONE);
        Edge.due("suspect(0, 200)", EdgeForecastTest::jet, x -> x.suspect(0, 200), NONE);
        Edge.due("suspect(0, 199)", EdgeForecastTest::jet, x -> x.suspect(0, 199), NONE);
        Edge.due("suspect(0, 2)", EdgeForecastTest::jet, x -> x.suspect(0, 2), NONE);
        Edge.due("suspect(0, NONE)", EdgeForecastTest::jet, x -> x.suspect(0, NONE), 0);
        Edge.due("suspect(0, 8)", EdgeForecastTest::jet, x -> x.suspect(0, 8), 0);
        Edge.due("suspect(0, 120) of a ring", () -> ring(7), x -> x.suspect(0, 120), 0);
    }

    private static int suspectBy(int supply, int strength, int leak, int beat) {
        AirValves x = new AirValves();
        x.set(0, 0);
        x.set(1, strength);
        x.valve(1, supply);
        x.duct(0, 0, 0, 0, 4);
        x.leak(0, leak);
        return x.suspect(0, beat);
    }

    /** A jet of 60 works by 30 (of 50 hundredths) or 31 (of 51), one of 10 by 9 (of 90). */
    private static void suspectEdges() {
        Check.due("no leak of up to 30 ends the beat", suspectBy(60, 50, 0, NONE), NONE);
        Check.due("that of 30 alone ends it", suspectBy(60, 51, 0, NONE), 0);
        Check.due("it beats by a leak of 1", suspectBy(10, 90, 0, 8), 0);
        Check.due("a leak of 2 ends that", suspectBy(10, 90, 0, NONE), 0);
        Check.due("one that leaks by 1 is not asked", suspectBy(10, 90, 1, 8), NONE);
        Check.due("one that leaks by 30 is not asked", suspectBy(10, 90, 30, NONE), NONE);
        AirValves x = new AirValves();
        x.valve(1, 50);
        Check.due("suspect without ducts", x.suspect(0, NONE), NONE);
        for (int d = 0; d < 15; d++) {
            x.duct(0, 1, 0, 1, 6);
            x.leak(d, 30);
        }
        x.duct(0, 0, 0, 0, 4);
        Check.due("the last one of 16 alone does not leak", x.suspect(0, 8), 15);
        x.leak(15, 1);
        Check.due("all of 16 leak", x.suspect(0, 8), NONE);
        x.leak(3, 0);
        Check.due("one between does not", x.suspect(0, x.beat(0)), 3);
        x.leak(15, 0);
        Check.due("the lowest of two", x.suspect(0, x.beat(0)), 3);
    }

    // ---- promise 26

    private static void tightestOfEmptyAndFullNets() {
        Edge.due("tightest() of no valves", AirValves::new, AirValves::tightest, NONE);
        AirValves x = new AirValves();
        x.valve(0, 50);
        x.ticks(1);
        Check.due("tightest() of no ducts", x.tightest(), NONE);
        for (int d = 0; d < 16; d++) {
            x.duct(0, 0, 0, 0, 1);
        }
        Check.due("tightest() of 16 whose leg has 0", x.tightest(), NONE);
        x.press(0, true);
        Check.due("tightest() ahead of the tick", x.tightest(), NONE);
        x.ticks(1);
        Check.due("tightest() of 16 that are the same", x.tightest(), 0);
        for (int d = 15; d >= 1; d--) {
            x.leak(d, 31 - 2 * d > 0 ? 1 : 2);
            Check.due("tightest() by the leak of " + d, x.tightest(), d);
            x.leak(d, 0);
        }
    }

    /** The meeting has 1 in its leg 1; a jet of 99 works by 90, behind a duct that loses 9 by 99. */
    private static void tightestAtTheEdges() {
        AirValves x = new AirValves();
        x.set(0, 9);
        x.set(1, 90);
        x.valve(0, 11);
        x.valve(3, 50);
        x.valve(1, 99);
        x.duct(0, 1, 1, 0, 1);
        x.leak(0, 1);
        x.duct(1, 1, 2, 0, 1);
        x.duct(1, 1, 2, 1, 1);
        x.leak(2, 1);
        x.ticks(2);
        Check.due("the meeting has 1", x.leg(1, 1), 1);
        Check.due("99 is just enough", x.ductOf(1, 7), 99);
        Check.due("99 is not enough", x.ductOf(2, 7), NONE);
        Check.due("-99 is less than 1 - 99", x.tightest(), 2);
        x.leak(2, 0);
        Check.due("the same twice", x.tightest(), 1);
        x.leak(1, 1);
        x.leak(2, 30);
        Check.due("-99 twice", x.tightest(), 1);
        x.leak(0, 2);
        x.ticks(1);
        Check.due("the meeting has 0", x.leg(1, 1), 0);
        Check.due("only a leg above 0 counts", x.tightest(), 0);
        x.press(0, true);
        x.ticks(1);
        Check.due("no leg with a duct has air", x.tightest(), NONE);
    }

    private static void unchanged(String what, Supplier<AirValves> made) {
        Edge.unchanged(what + "restIn()", made, AirValves::restIn);
        Edge.unchanged(what + "beat(2)", made, x -> x.beat(2));
        Edge.unchanged(what + "ifLeak(0, 30, 2)", made, x -> x.ifLeak(0, 30, 2));
        Edge.unchanged(what + "suspect(2, 2)", made, x -> x.suspect(2, 2));
        Edge.unchanged(what + "tightest()", made, AirValves::tightest);
    }

    private static void forecastsChangeNothing() {
        unchanged("", Edge::rich);
        unchanged("full: ", Edge::full);
        Edge.unchanged("rule(0, 1, 2)", Edge::rich, x -> x.rule(0, 1, 2));
        Edge.unchanged("full: rule(0, 5, 2)", Edge::full, x -> x.rule(0, 5, 2));
    }
}
