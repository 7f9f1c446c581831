import java.util.function.Supplier;

/** The edges of promises 6 to 11: about, valveOf, leg, push, ductOf, setting. */
public final class EdgeReadingTest {
    private static final int NONE = AirValves.NONE;

    public static void main(String[] args) {
        aboutRange();
        aboutEmptyAndFull();
        aboutTheLeastPressure();
        aboutCrossings();
        valveOfRange();
        valveOfOfEachKind();
        valveOfDucts();
        legRange();
        legAheadOfTheFirstTick();
        pushRange();
        pushThatJustWorks();
        ductOfRange();
        ductOfNothingAtLeast();
        ductOfWhatNeverEntered();
        ductOfTheMost();
        settingRange();
        readingsChangeNothing();
        Check.end("EdgeReadingTest");
    }

    // ---- promise 6

    private static void aboutRange() {
        for (int what : Edge.outside(0, 6)) {
            Edge.argument("about(" + what + ")", Edge::rich, x -> x.about(what));
            Edge.argument("new: about(" + what + ")", AirValves::new, x -> x.about(what));
        }
    }

    /** Ten keys of 99, all pressed, sixteen ducts. */
    private static AirValves tenKeys() {
        AirValves x = new AirValves();
        for (int v = 0; v < 10; v++) {
            x.valve(0, 99);
            x.press(v, true);
        }
        for (int d = 0; d < 16; d++) {
            x.duct(9, 1, 9, 1, 6);
        }
        return x;
    }

    private static void aboutEmptyAndFull() {
        int[] ahead = {10, 16, 0, 0, 0, 1023, 0};
        int[] behind = {10, 16, 99, 10, 990, 1023, 0};
        AirValves x = tenKeys();
        for (int what = 0; what <= 6; what++) {
            Check.due("full, ahead: about(" + what + ")", x.about(what), ahead[what]);
        }
        x.ticks(99);
        for (int what = 0; what <= 6; what++) {
            Check.due("full, behind: about(" + what + ")", x.about(what), behind[what]);
        }
        for (int v = 0; v < 10; v++) {
            x.press(v, false);
            Check.due("the keys without " + v, x.about(5), 1023 - (1 << v));
            x.press(v, true);
        }
    }

    /** A meeting that gets 1 has a pressure; one that gets 0 has none. */
    private static void aboutTheLeastPressure() {
        AirValves x = new AirValves();
        x.valve(0, 10);
        x.valve(3, 50);
        x.duct(0, 1, 1, 0, 1);
        x.set(0, 9);
        x.ticks(2);
        Check.due("the leg of the meeting by 1", x.leg(1, 1), 1);
        Check.due("legs above 0 by 1", x.about(3), 2);
        Check.due("all legs by 1", x.about(4), 11);
        x.leak(0, 1);
        x.ticks(1);
        Check.due("the leg of the meeting by 0", x.leg(1, 1), 0);
        Check.due("legs above 0 by 0", x.about(3), 1);
        Check.due("all legs by 0", x.about(4), 10);
    }

    /** A jet at a wall that goes over and back: from 0 on, and by each way once. */
    private static void aboutCrossings() {
        AirValves x = new AirValves();
        x.valve(0, 80);
        x.valve(2, 80);
        x.valve(2, 80);
        x.duct(0, 0, 1, 0, 1);
        x.duct(0, 1, 1, 1, 1);
        x.duct(0, 0, 2, 0, 2);
        Check.due("crossings ahead of the first tick", x.about(6), 0);
        x.ticks(9);
        Check.due("a push to the leg where it sticks is none", x.about(6), 0);
        x.press(0, true);
        x.ticks(1);
        Check.due("a tick too soon", x.about(6), 0);
        x.ticks(1);
        Check.due("the first one goes over", x.about(6), 1);
        x.save(0);
        x.ticks(1);
        Check.due("the second one goes over", x.about(6), 2);
        x.ticks(99);
        Check.due("they stay", x.about(6), 2);
        x.press(0, false);
        x.ticks(9);
        Check.due("the first one goes back, the second one sticks", x.about(6), 3);
        x.undo();
        Check.due("crossings behind undo()", x.about(6), 2);
        x.restore(0);
        Check.due("crossings behind restore(0)", x.about(6), 1);
        Check.write(x, "W");
        x.load();
        Check.due("crossings behind load()", x.about(6), 0);
    }

    // ---- promise 7

    private static void valveOfRange() {
        for (int what : Edge.outside(0, 4)) {
            Edge.argument("valveOf(0, " + what + ")", Edge::rich, x -> x.valveOf(0, what));
            Edge.argument("valveOf(5, " + what + ")", Edge::rich, x -> x.valveOf(5, what));
            Edge.index("valveOf(6, " + what + ")", Edge::rich, x -> x.valveOf(6, what));
            Edge.index("valveOf(-1, " + what + ")", Edge::rich, x -> x.valveOf(-1, what));
        }
        for (int v : Edge.outside(0, Edge.RICH_VALVES - 1)) {
            Edge.index("valveOf(" + v + ", 0)", Edge::rich, x -> x.valveOf(v, 0));
            Edge.index("valveOf(" + v + ", 4)", Edge::rich, x -> x.valveOf(v, 4));
        }
        for (int v : Edge.outside(0, 9)) {
            Edge.index("full: valveOf(" + v + ", 0)", Edge::full, x -> x.valveOf(v, 0));
        }
        Edge.due("full: valveOf(9, 0)", Edge::full, x -> x.valveOf(9, 0), 4);
        Edge.due("full: valveOf(9, 1)", Edge::full, x -> x.valveOf(9, 1), 90);
        Edge.due("full: valveOf(0, 1)", Edge::full, x -> x.valveOf(0, 1), 99);
        Edge.due("valveOf(5, 1)", Edge::rich, x -> x.valveOf(5, 1), 30);
    }

    /** Of jets, meetings and boosters it is 0, whatever they do. */
    private static void valveOfOfEachKind() {
        for (int kind = 0; kind <= 4; kind++) {
            AirValves x = new AirValves();
            x.valve(0, 90);
            x.valve(kind, 50);
            x.duct(0, 0, 1, 0, 1);
            Check.due("kind " + kind + " at first", x.valveOf(1, 2), 0);
            x.press(0, true);
            x.ticks(1);
            Check.due("kind " + kind + " a tick ahead", x.valveOf(1, 2), 0);
            x.ticks(1);
            Check.due("kind " + kind + " that is pushed", x.valveOf(1, 2), kind == 2 ? 1 : 0);
            Check.due("kind of kind " + kind, x.valveOf(1, 0), kind);
        }
    }

    private static void valveOfDucts() {
        AirValves x = new AirValves();
        x.valve(0, 50);
        x.valve(1, 50);
        Check.due("ducts from it, none", x.valveOf(0, 3), 0);
        Check.due("ducts to it, none", x.valveOf(0, 4), 0);
        for (int d = 1; d <= 16; d++) {
            x.duct(0, d % 2, 0, d / 2 % 2, 1);
            Check.due(d + " ducts from it", x.valveOf(0, 3), d);
            Check.due(d + " ducts to it", x.valveOf(0, 4), d);
            Check.due("ducts from the other one", x.valveOf(1, 3), 0);
            Check.due("ducts to the other one", x.valveOf(1, 4), 0);
        }
        x.remove(15);
        x.duct(0, 0, 1, 0, 1);
        Check.due("ducts from it, with one to another", x.valveOf(0, 3), 16);
        Check.due("ducts to it, with one to another", x.valveOf(0, 4), 15);
        Check.due("ducts to that", x.valveOf(1, 4), 1);
    }

    // ---- promise 8

    private static void legRange() {
        for (int v : Edge.outside(0, Edge.RICH_VALVES - 1)) {
            Edge.index("leg(" + v + ", 0)", Edge::rich, x -> x.leg(v, 0));
            Edge.index("leg(" + v + ", 1)", Edge::rich, x -> x.leg(v, 1));
            Edge.index("leg(" + v + ", 2)", Edge::rich, x -> x.leg(v, 2));
        }
        for (int leg : Edge.outside(0, 1)) {
            Edge.index("leg(0, " + leg + ")", Edge::rich, x -> x.leg(0, leg));
            Edge.index("leg(5, " + leg + ")", Edge::rich, x -> x.leg(5, leg));
        }
        for (int v : Edge.outside(0, 9)) {
            Edge.index("full: leg(" + v + ", 0)", Edge::full, x -> x.leg(v, 0));
        }
        Edge.due("leg(0, 0)", Edge::rich, x -> x.leg(0, 0), 90);
        Edge.due("leg(0, 1)", Edge::rich, x -> x.leg(0, 1), 0);
        Edge.due("leg(5, 0)", Edge::rich, x -> x.leg(5, 0), 0);
        Edge.due("leg(5, 1)", Edge::rich, x -> x.leg(5, 1), 30);
    }

    private static void legAheadOfTheFirstTick() {
        for (int kind = 0; kind <= 4; kind++) {
            AirValves x = new AirValves();
            x.valve(0, 99);
            x.ticks(9);
            x.valve(kind, 99);
            x.duct(0, 1, 1, 0, 1);
            for (int side = 0; side <= 1; side++) {
                Check.due("kind " + kind + " ahead of its first tick: leg " + side, x.leg(1, side), 0);
                Check.due("kind " + kind + " ahead of its first tick: push " + side, x.push(1, side, 0), 0);
                Check.due("kind " + kind + " ahead of its first tick: works " + side, x.push(1, side, 1), 0);
            }
            x.ticks(1);
            Check.due("kind " + kind + " behind it: all legs", x.about(4), kind == 3 ? 99 : 198);
        }
    }

    // ---- promise 9

    private static void pushRange() {
        for (int v : Edge.outside(0, Edge.RICH_VALVES - 1)) {
            Edge.index("push(" + v + ", 0, 0)", Edge::rich, x -> x.push(v, 0, 0));
            Edge.index("push(" + v + ", 1, 1)", Edge::rich, x -> x.push(v, 1, 1));
            Edge.index("push(" + v + ", 2, 2)", Edge::rich, x -> x.push(v, 2, 2));
            Edge.index("push(" + v + ", 0, 2)", Edge::rich, x -> x.push(v, 0, 2));
        }
        for (int other : Edge.outside(0, 1)) {
            Edge.index("push(0, " + other + ", 0)", Edge::rich, x -> x.push(0, other, 0));
            Edge.index("push(5, " + other + ", 1)", Edge::rich, x -> x.push(5, other, 1));
            Edge.index("push(0, " + other + ", " + other + ")", Edge::rich, x -> x.push(0, other, other));
            Edge.argument("push(0, 0, " + other + ")", Edge::rich, x -> x.push(0, 0, other));
            Edge.argument("push(5, 1, " + other + ")", Edge::rich, x -> x.push(5, 1, other));
        }
        for (int v : Edge.outside(0, 9)) {
            Edge.index("full: push(" + v + ", 0, 0)", Edge::full, x -> x.push(v, 0, 0));
        }
        Edge.due("full: push(9, 1, 0)", Edge::full, x -> x.push(9, 1, 0), 0);
    }

    /** A key pushes a jet by just that pressure, through a leak if it is less than a key can have. */
    private static AirValves pushing(int pressure, int supply, int strength) {
        AirValves x = new AirValves();
        x.set(0, 0);
        x.set(1, strength);
        x.valve(0, pressure < 10 ? 10 : pressure);
        x.valve(1, supply);
        x.duct(0, 1, 1, 1, 1);
        x.leak(0, pressure < 10 ? 10 - pressure : 0);
        x.ticks(2);
        return x;
    }

    private static void works(int pressure, int supply, int strength, int due) {
        String what = pressure + " at a jet of " + supply + " by " + strength;
        AirValves x = pushing(pressure, supply, strength);
        Check.due(what + ": its pressure", x.push(1, 1, 0), pressure);
        Check.due(what + ": works", x.push(1, 1, 1), due);
        Check.due(what + ": leg 0", x.leg(1, 0), due == 1 ? 0 : supply);
        Check.due(what + ": leg 1", x.leg(1, 1), due == 1 ? supply : 0);
    }

    private static void pushThatJustWorks() {
        works(0, 10, 5, 0);
        works(1, 10, 5, 1);
        works(1, 20, 5, 1);
        works(1, 21, 5, 0);
        works(1, 10, 10, 1);
        works(1, 10, 11, 0);
        works(30, 100 - 1, 30, 1);
        works(29, 99, 30, 0);
        works(15, 50, 30, 1);
        works(14, 50, 30, 0);
        works(90, 99, 90, 1);
        works(89, 99, 90, 0);
        works(99, 99, 90, 1);
        works(9, 10, 90, 1);
        works(8, 10, 90, 0);
    }

    // ---- promise 10

    private static void ductOfRange() {
        for (int d : Edge.outside(0, Edge.RICH_DUCTS - 1)) {
            Edge.index("ductOf(" + d + ", 0)", Edge::rich, x -> x.ductOf(d, 0));
            Edge.index("ductOf(" + d + ", 7)", Edge::rich, x -> x.ductOf(d, 7));
            Edge.index("ductOf(" + d + ", 8)", Edge::rich, x -> x.ductOf(d, 8));
        }
        for (int what : Edge.outside(0, 7)) {
            Edge.argument("ductOf(0, " + what + ")", Edge::rich, x -> x.ductOf(0, what));
            Edge.argument("ductOf(4, " + what + ")", Edge::rich, x -> x.ductOf(4, what));
            Edge.index("ductOf(5, " + what + ")", Edge::rich, x -> x.ductOf(5, what));
            Edge.index("new: ductOf(0, " + what + ")", AirValves::new, x -> x.ductOf(0, what));
        }
        for (int d : Edge.outside(0, 15)) {
            Edge.index("full: ductOf(" + d + ", 0)", Edge::full, x -> x.ductOf(d, 0));
        }
        int[] last = {5, 1, 4, 1, 4, 0};
        for (int what = 0; what < last.length; what++) {
            int asked = what;
            Edge.due("full: ductOf(15, " + what + ")", Edge::full, x -> x.ductOf(15, asked), last[what]);
        }
    }

    /** A key of 10 through a duct of length 1: what comes out is 2, 1, 0, and no less. */
    private static void ductOfNothingAtLeast() {
        AirValves x = new AirValves();
        x.valve(0, 10);
        x.duct(0, 1, 0, 0, 1);
        x.set(0, 0);
        x.ticks(1);
        int[] leaks = {0, 8, 9, 10, 11, 30};
        int[] due = {10, 2, 1, 0, 0, 0};
        for (int i = 0; i < leaks.length; i++) {
            x.leak(0, leaks[i]);
            Check.due("out of it by a leak of " + leaks[i], x.ductOf(0, 6), due[i]);
            x.ticks(1);
            Check.due("at the push by a leak of " + leaks[i], x.push(0, 0, 0), due[i]);
        }
        x.leak(0, 1);
        x.set(0, 8);
        Check.due("out of it by a loss of 8 and a leak of 1", x.ductOf(0, 6), 1);
        x.set(0, 9);
        Check.due("out of it by a loss of 9 and a leak of 1", x.ductOf(0, 6), 0);
        x.leak(0, 2);
        Check.due("out of it by a loss of 9 and a leak of 2", x.ductOf(0, 6), 0);
        x.leak(0, 30);
        x.remove(0);
        x.duct(0, 1, 0, 0, 6);
        x.leak(0, 30);
        x.ticks(9);
        Check.due("out of it by the most that can be lost", x.ductOf(0, 6), 0);
        x.feed(0, 99);
        x.ticks(9);
        Check.due("out of it by the most that can be lost of 99", x.ductOf(0, 6), 99 - 54 - 30);
    }

    /** Neither its new place nor what the leg had ahead of it brings anything out of a new duct. */
    private static void ductOfWhatNeverEntered() {
        for (int length = 1; length <= 6; length++) {
            int lengthOfIt = length;
            Supplier<AirValves> made = () -> {
                AirValves x = new AirValves();
                x.valve(0, 99);
                x.duct(0, 1, 0, 1, 6);
                x.ticks(20);
                x.remove(0);
                x.duct(0, 1, 0, 0, lengthOfIt);
                return x;
            };
            Edge.due(length + ": out of a new duct", made, x -> x.ductOf(0, 6), 0);
            for (int ticks = 1; ticks <= 8; ticks++) {
                int gone = ticks;
                Edge.due(length + ": out of it behind " + ticks, made, x -> {
                    x.ticks(gone);
                    return x.ductOf(0, 6);
                }, ticks < length ? 0 : 99 - 2 * length);
                Edge.due(length + ": at the push behind " + ticks, made, x -> {
                    x.ticks(gone);
                    return x.push(0, 0, 0);
                }, ticks <= length ? 0 : 99 - 2 * length);
            }
        }
    }

    private static void least(int supply, int strength, int loss, int length, int leak, int due) {
        AirValves x = new AirValves();
        x.valve(0, 10);
        x.valve(3, supply);
        x.set(0, loss);
        x.set(1, strength);
        x.duct(0, 0, 1, 1, length);
        x.leak(0, leak);
        String what = supply + " by " + strength + ", loss " + loss + ", length " + length + ", leak " + leak;
        Check.due("the least to enter: " + what, x.ductOf(0, 7), due);
        x.ticks(30);
        Check.due("the least to enter later: " + what, x.ductOf(0, 7), due);
    }

    private static void ductOfTheMost() {
        least(10, 5, 0, 1, 0, 1);
        least(20, 5, 0, 6, 0, 1);
        least(21, 5, 0, 6, 0, 2);
        least(10, 10, 0, 1, 0, 1);
        least(10, 11, 0, 1, 0, 2);
        least(99, 90, 0, 1, 0, 90);
        least(99, 90, 0, 1, 9, 99);
        least(99, 90, 0, 1, 10, NONE);
        least(99, 90, 0, 1, 30, NONE);
        least(99, 90, 9, 1, 0, 99);
        least(99, 90, 9, 1, 1, NONE);
        least(98, 90, 9, 1, 1, 99);
        least(99, 90, 9, 6, 30, NONE);
        least(50, 30, 9, 6, 30, 99);
        least(50, 31, 9, 6, 30, NONE);
        least(51, 30, 9, 6, 30, NONE);
        least(91, 11, 0, 1, 0, 11);
        least(90, 11, 0, 1, 0, 10);
        least(50, 30, 9, 6, 29, 98);
    }

    // ---- promise 11

    private static void settingRange() {
        for (int what : Edge.outside(0, 1)) {
            Edge.argument("setting(" + what + ")", Edge::rich, x -> x.setting(what));
            Edge.argument("new: setting(" + what + ")", AirValves::new, x -> x.setting(what));
        }
        Edge.due("setting(0)", Edge::rich, x -> x.setting(0), 3);
        Edge.due("setting(1)", Edge::rich, x -> x.setting(1), 35);
    }

    private static void readingsChangeNothing() {
        Edge.unchanged("about", Edge::rich, x -> x.about(3) + x.about(4) + x.about(5));
        Edge.unchanged("valveOf", Edge::rich, x -> x.valveOf(3, 2) + x.valveOf(3, 3) + x.valveOf(3, 4));
        Edge.unchanged("leg", Edge::rich, x -> x.leg(2, 0));
        Edge.unchanged("push", Edge::rich, x -> x.push(2, 0, 0) + x.push(2, 0, 1));
        Edge.unchanged("ductOf", Edge::rich, x -> x.ductOf(3, 6) + x.ductOf(3, 7));
        Edge.unchanged("setting", Edge::rich, x -> x.setting(0) + x.setting(1));
    }
}
