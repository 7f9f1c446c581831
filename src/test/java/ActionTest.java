import java.util.function.ToIntFunction;

/** Promises 12 to 20: valve, duct, remove, press, leak, feed, set, ticks, undo. */
public final class ActionTest {
    private static final int[] FAR = {Integer.MIN_VALUE, -1, Integer.MAX_VALUE};
    /** How many actions make net(). */
    private static final int ACTIONS = 7;

    public static void main(String[] args) {
        valve();
        valveRefuses();
        duct();
        newDuctIsEmpty();
        ductRefuses();
        remove();
        press();
        leak();
        feed();
        set();
        ticks();
        lengthsTakeTime();
        jets();
        meetings();
        boosters();
        allAtOnce();
        undo();
        undoOfEach();
        undoForgetsTheOldest();
        undoOfAFullNet();
        Check.end("ActionTest");
    }

    /** The keys 0 and 1, the jet 2; a duct from the key 0, and one from the jet to the key 1. */
    private static AirValves net() {
        AirValves x = new AirValves();
        x.valve(0, 80);
        x.valve(0, 70);
        x.valve(1, 60);
        x.duct(0, 0, 2, 0, 1);
        x.duct(2, 1, 1, 1, 3);
        x.press(0, true);
        x.ticks(3);
        return x;
    }

    private static void index(String what, ToIntFunction<AirValves> call) {
        AirValves x = net();
        Check.index(x, what, () -> call.applyAsInt(x));
        nothingIsRemembered(what, x);
    }

    private static void argument(String what, ToIntFunction<AirValves> call) {
        AirValves x = net();
        Check.argument(x, what, () -> call.applyAsInt(x));
        nothingIsRemembered(what, x);
    }

    private static void state(String what, ToIntFunction<AirValves> call) {
        AirValves x = net();
        Check.state(x, what, () -> call.applyAsInt(x));
        nothingIsRemembered(what, x);
    }

    private static void nothingIsRemembered(String what, AirValves x) {
        Check.due("the states remembered behind a refused " + what, Check.undoAll(x), ACTIONS);
    }

    private static void valve() {
        AirValves x = new AirValves();
        for (int v = 0; v < 10; v++) {
            int supply = v == 0 ? 10 : v == 1 ? 99 : 20 + v;
            Check.due("valve " + v, x.valve(v % 5, supply), v);
            Check.due("kind of " + v, x.valveOf(v, 0), v % 5);
            Check.due("supply of " + v, x.valveOf(v, 1), supply);
            Check.due("side of " + v, x.valveOf(v, 2), 0);
            Check.due("leg 0 of " + v, x.leg(v, 0), 0);
            Check.due("leg 1 of " + v, x.leg(v, 1), 0);
            Check.due("push 0 of " + v, x.push(v, 0, 0), 0);
        }
        Check.due("valves", x.about(0), 10);
        AirValves late = net();
        Check.due("a valve behind ticks", late.valve(4, 33), 3);
        Check.due("its leg 1 ahead of its first tick", late.leg(3, 1), 0);
        late.ticks(1);
        Check.due("its leg 1 behind it", late.leg(3, 1), 33);
    }

    private static void valveRefuses() {
        for (int kind : new int[] {Integer.MIN_VALUE, -1, 5, Integer.MAX_VALUE}) {
            argument("valve(" + kind + ", 50)", x -> x.valve(kind, 50));
        }
        for (int supply : new int[] {Integer.MIN_VALUE, -1, 0, 9, 100, Integer.MAX_VALUE}) {
            argument("valve(0, " + supply + ")", x -> x.valve(0, supply));
        }
        AirValves full = new AirValves();
        for (int v = 0; v < 10; v++) {
            full.valve(0, 50);
        }
        Check.state(full, "valve 11", () -> full.valve(0, 50));
        AirValves other = new AirValves();
        for (int v = 0; v < 10; v++) {
            other.valve(0, 50);
        }
        Check.argument(other, "valve 11 of no kind", () -> other.valve(5, 50));
    }

    private static void duct() {
        AirValves x = new AirValves();
        x.valve(0, 50);
        x.valve(3, 50);
        for (int d = 0; d < 16; d++) {
            Check.due("duct " + d, x.duct(d % 2, d / 2 % 2, d / 4 % 2, d / 8, 1 + d % 6), d);
        }
        int[] due = {1, 0, 1, 1, 2, 0, 0, 15 + 4};
        for (int what = 0; what < due.length; what++) {
            Check.due("ductOf(13, " + what + ")", x.ductOf(13, what), due[what]);
        }
        Check.due("ducts", x.about(1), 16);
        Check.due("undo of a duct", x.undo(), 13);
        Check.due("ducts behind it", x.about(1), 15);
        Check.due("a duct in its place", x.duct(1, 1, 1, 1, 6), 15);
    }

    /** The leg has had its pressure for some ticks; that never entered the new duct. */
    private static void newDuctIsEmpty() {
        for (int length = 1; length <= 6; length++) {
            AirValves x = new AirValves();
            x.valve(0, 90);
            x.valve(3, 50);
            x.ticks(9);
            x.duct(0, 1, 1, 0, length);
            for (int tick = 1; tick <= 8; tick++) {
                Check.due(length + ": out of a new duct next, tick " + tick, x.ductOf(0, 6),
                        tick <= length ? 0 : 90 - 2 * length);
                x.ticks(1);
                Check.due(length + ": at the push in tick " + tick, x.push(1, 0, 0),
                        tick <= length ? 0 : 90 - 2 * length);
            }
            x.remove(0);
            x.duct(0, 1, 1, 0, length);
            Check.due(length + ": out of a duct in the place of another", x.ductOf(0, 6), 0);
            Check.due(length + ": its leak", x.ductOf(0, 5), 0);
        }
    }

    private static void ductRefuses() {
        for (int v : new int[] {Integer.MIN_VALUE, -1, 3, 10, Integer.MAX_VALUE}) {
            index("duct from " + v, x -> x.duct(v, 0, 0, 0, 1));
            index("duct to " + v, x -> x.duct(0, 0, v, 0, 1));
            index("duct to " + v + " of length 0", x -> x.duct(0, 0, v, 0, 0));
        }
        for (int side : new int[] {Integer.MIN_VALUE, -1, 2, Integer.MAX_VALUE}) {
            index("duct from leg " + side, x -> x.duct(0, side, 0, 0, 1));
            index("duct to push " + side, x -> x.duct(0, 0, 0, side, 1));
            index("duct to push " + side + " of length 7", x -> x.duct(0, 0, 0, side, 7));
        }
        for (int length : new int[] {Integer.MIN_VALUE, -1, 0, 7, Integer.MAX_VALUE}) {
            argument("duct of length " + length, x -> x.duct(0, 0, 2, 1, length));
        }
        AirValves full = full();
        Check.state(full, "duct 17", () -> full.duct(0, 0, 0, 0, 1));
        AirValves longer = full();
        Check.argument(longer, "duct 17 of length 7", () -> longer.duct(0, 0, 0, 0, 7));
        AirValves nowhere = full();
        Check.index(nowhere, "duct 17 to push 2", () -> nowhere.duct(0, 0, 0, 2, 7));
    }

    private static AirValves full() {
        AirValves x = new AirValves();
        x.valve(0, 50);
        for (int d = 0; d < 16; d++) {
            x.duct(0, 0, 0, 0, 1);
        }
        return x;
    }

    private static void remove() {
        AirValves x = new AirValves();
        x.valve(0, 90);
        x.valve(3, 50);
        x.duct(0, 1, 1, 0, 2);
        x.duct(0, 0, 1, 1, 1);
        x.duct(0, 1, 0, 1, 5);
        x.leak(2, 9);
        x.ticks(2);
        Check.due("remove(1)", x.remove(1), 2);
        int[] due = {0, 1, 0, 1, 5, 9, 0, 24 + 10 + 9 + 3};
        for (int what = 0; what < due.length; what++) {
            Check.due("the duct behind it: " + what, x.ductOf(1, what), due[what]);
        }
        Check.due("the duct ahead of it", x.ductOf(0, 6), 86);
        x.ticks(3);
        Check.due("it brings what was in it", x.ductOf(1, 6), 90 - 10 - 9);
        Check.due("ducts from 0", x.valveOf(0, 3), 2);
        Check.due("remove(1), the last", x.remove(1), 1);
        Check.due("remove(0)", x.remove(0), 0);
        x.ticks(1);
        Check.due("a push without ducts", x.push(1, 0, 0), 0);
        Check.index(x, "remove(0) of none", () -> x.remove(0));
        for (int d : new int[] {Integer.MIN_VALUE, -1, 2, 16, Integer.MAX_VALUE}) {
            index("remove(" + d + ")", y -> y.remove(d));
        }
    }

    private static void press() {
        AirValves x = net();
        Check.due("press(0, true) of a pressed one", x.press(0, true), 0);
        Check.due("press(0, false)", x.press(0, false), 1);
        Check.due("press(0, false) once more", x.press(0, false), 0);
        Check.due("press(1, true)", x.press(1, true), 1);
        Check.due("the keys", x.about(5), 2);
        Check.due("leg 0 ahead of the tick", x.leg(0, 0), 80);
        x.ticks(1);
        Check.due("leg 0 of 0", x.leg(0, 0), 0);
        Check.due("leg 1 of 0", x.leg(0, 1), 80);
        Check.due("leg 0 of 1", x.leg(1, 0), 70);
        Check.due("leg 1 of 1", x.leg(1, 1), 0);
        for (int v : new int[] {Integer.MIN_VALUE, -1, 3, 10, Integer.MAX_VALUE}) {
            index("press(" + v + ", true)", y -> y.press(v, true));
        }
        state("press(2, true) of a jet", y -> y.press(2, true));
        for (int kind = 1; kind <= 4; kind++) {
            AirValves other = new AirValves();
            other.valve(kind, 50);
            Check.state(other, "press of the kind " + kind, () -> other.press(0, false));
        }
    }

    private static void leak() {
        AirValves x = net();
        Check.due("leak(0, 30)", x.leak(0, 30), 0);
        Check.due("out of it, also what is in it", x.ductOf(0, 6), 80 - 2 - 30);
        Check.due("leak(0, 0)", x.leak(0, 0), 30);
        Check.due("out of it again", x.ductOf(0, 6), 78);
        x.leak(0, 17);
        x.ticks(1);
        Check.due("at the push", x.push(2, 0, 0), 80 - 2 - 17);
        x.feed(0, 10);
        x.set(0, 9);
        x.ticks(2);
        Check.due("0 at least", x.push(2, 0, 0), 0);
        Check.due("0 at least comes out", x.ductOf(0, 6), 0);
        for (int d : new int[] {Integer.MIN_VALUE, -1, 2, 16, Integer.MAX_VALUE}) {
            index("leak(" + d + ", 1)", y -> y.leak(d, 1));
            index("leak(" + d + ", 31)", y -> y.leak(d, 31));
        }
        for (int v : new int[] {Integer.MIN_VALUE, -1, 31, Integer.MAX_VALUE}) {
            argument("leak(0, " + v + ")", y -> y.leak(0, v));
        }
    }

    private static void feed() {
        AirValves x = net();
        Check.due("feed(0, 99)", x.feed(0, 99), 80);
        Check.due("feed(0, 10)", x.feed(0, 10), 99);
        Check.due("its supply", x.valveOf(0, 1), 10);
        Check.due("its leg ahead of the tick", x.leg(0, 0), 80);
        Check.due("out of its duct", x.ductOf(0, 6), 78);
        x.ticks(1);
        Check.due("its leg behind it", x.leg(0, 0), 10);
        for (int v : new int[] {Integer.MIN_VALUE, -1, 3, 10, Integer.MAX_VALUE}) {
            index("feed(" + v + ", 50)", y -> y.feed(v, 50));
            index("feed(" + v + ", 5)", y -> y.feed(v, 5));
        }
        for (int supply : new int[] {Integer.MIN_VALUE, -1, 0, 9, 100, Integer.MAX_VALUE}) {
            argument("feed(0, " + supply + ")", y -> y.feed(0, supply));
        }
    }

    private static void set() {
        AirValves x = net();
        Check.due("set(0, 9)", x.set(0, 9), 2);
        Check.due("set(0, 0)", x.set(0, 0), 9);
        Check.due("set(1, 5)", x.set(1, 5), 30);
        Check.due("set(1, 90)", x.set(1, 90), 5);
        Check.due("set(1, 90) once more", x.set(1, 90), 90);
        Check.due("setting(0)", x.setting(0), 0);
        Check.due("setting(1)", x.setting(1), 90);
        for (int v : FAR) {
            argument("set(0, " + v + ")", y -> y.set(0, v));
            argument("set(1, " + v + ")", y -> y.set(1, v));
            argument("set(" + v + ", 5)", y -> y.set(v, 5));
        }
        argument("set(0, 10)", y -> y.set(0, 10));
        argument("set(1, 4)", y -> y.set(1, 4));
        argument("set(1, 91)", y -> y.set(1, 91));
        argument("set(2, 5)", y -> y.set(2, 5));
    }

    private static void ticks() {
        AirValves x = new AirValves();
        Check.due("ticks(1) of nothing", x.ticks(1), 0);
        x.valve(0, 80);
        x.valve(1, 50);
        x.duct(0, 0, 1, 0, 1);
        Check.due("ticks(1), both get air", x.ticks(1), 2);
        Check.due("ticks(1) at rest", x.ticks(1), 0);
        x.press(0, true);
        Check.due("ticks(1) behind a press", x.ticks(1), 2);
        Check.due("ticks(1), the jet", x.ticks(1), 2);
        x.press(0, false);
        Check.due("ticks(99) of both", x.ticks(99), 4);
        Check.due("the time", x.about(2), 104);
        x.feed(0, 81);
        Check.due("another pressure in the same leg", x.ticks(2), 1);
        beatingLegs();
        for (int n : new int[] {Integer.MIN_VALUE, -1, 0, 100, Integer.MAX_VALUE}) {
            argument("ticks(" + n + ")", y -> y.ticks(n));
        }
    }

    /** Only ahead and behind count, not what was between: a jet that beats by 2 is the same again. */
    private static void beatingLegs() {
        AirValves x = new AirValves();
        x.valve(1, 50);
        x.duct(0, 0, 0, 0, 1);
        x.ticks(10);
        Check.due("ticks(2) of a beat of 2", x.ticks(2), 0);
        Check.due("ticks(99) of a beat of 2", x.ticks(99), 2);
    }

    private static void lengthsTakeTime() {
        for (int length = 1; length <= 6; length++) {
            AirValves x = new AirValves();
            x.valve(0, 99);
            x.valve(3, 50);
            x.duct(0, 0, 1, 1, length);
            x.set(0, 3);
            x.press(0, true);
            x.ticks(1);
            x.press(0, false);
            x.ticks(1);
            for (int tick = 2; tick <= 9; tick++) {
                int due = tick == 1 + length ? 99 - 3 * length : 0;
                Check.due(length + ": push in tick " + tick, x.push(1, 1, 0), due);
                Check.due(length + ": leg in tick " + tick, x.leg(1, 1), due);
                x.ticks(1);
            }
        }
        AirValves x = new AirValves();
        x.valve(0, 90);
        x.duct(0, 1, 0, 0, 3);
        x.duct(0, 1, 0, 0, 1);
        x.duct(0, 1, 0, 0, 2);
        int[] due = {0, 88, 88, 88};
        for (int tick = 0; tick < due.length; tick++) {
            x.ticks(1);
            Check.due("the greatest one in tick " + (tick + 1), x.push(0, 0, 0), due[tick]);
        }
        x.leak(1, 30);
        x.ticks(1);
        Check.due("the greatest one beside a leak", x.push(0, 0, 0), 86);
    }

    /** Two keys push a valve without loss; what its legs have behind that is due in four rows of two. */
    private static void pushed(String what, int kind, int supply, int first, int second, int... due) {
        AirValves x = new AirValves();
        x.valve(0, first);
        x.valve(0, second);
        x.valve(kind, supply);
        x.duct(0, 0, 2, 0, 1);
        x.duct(1, 0, 2, 1, 1);
        x.set(0, 0);
        for (int keys = 0; keys < 4; keys++) {
            x.press(0, keys % 2 == 1);
            x.press(1, keys / 2 == 1);
            x.ticks(2);
            Check.due(what + ": leg 0, keys " + keys, x.leg(2, 0), due[2 * keys]);
            Check.due(what + ": leg 1, keys " + keys, x.leg(2, 1), due[2 * keys + 1]);
        }
    }

    private static void jets() {
        pushed("a jet", 1, 60, 18, 18, 60, 0, 0, 60, 0, 60, 0, 60);
        pushed("a jet, pushed too little", 1, 60, 17, 17, 60, 0, 60, 0, 60, 0, 60, 0);
        pushed("a jet, pushed by the second alone", 1, 60, 17, 18, 60, 0, 60, 0, 0, 60, 0, 60);
        pushed("a jet at a wall", 2, 60, 18, 18, 60, 0, 0, 60, 60, 0, 60, 0);
        pushed("a jet at a wall, pushed too little", 2, 60, 17, 17, 60, 0, 60, 0, 60, 0, 60, 0);
        pushed("a jet at a wall, the second too little", 2, 60, 18, 17, 60, 0, 0, 60, 0, 60, 0, 60);
        pushed("a key does not care", 0, 60, 99, 99, 0, 60, 0, 60, 0, 60, 0, 60);
    }

    private static void meetings() {
        pushed("a meeting", 3, 60, 30, 40, 0, 0, 0, 30, 0, 40, 30, 0);
        pushed("a meeting, the other way", 3, 10, 99, 12, 0, 0, 0, 99, 0, 12, 12, 0);
        pushed("a meeting of the same", 3, 10, 50, 50, 0, 0, 0, 50, 0, 50, 50, 0);
    }

    /** A key of 10 without loss, through a leak of 6 and of 5: 4 and 5 come out. */
    private static void boosters() {
        pushed("a booster", 4, 99, 10, 10, 0, 99, 99, 0, 99, 0, 99, 0);
        for (int push = 0; push <= 1; push++) {
            AirValves x = new AirValves();
            x.valve(0, 10);
            x.valve(4, 99);
            x.duct(0, 0, 1, push, 1);
            x.set(0, 0);
            x.press(0, true);
            x.leak(0, 6);
            x.ticks(2);
            Check.due("a booster by 4: leg 0", x.leg(1, 0), 0);
            Check.due("a booster by 4: leg 1", x.leg(1, 1), 99);
            x.leak(0, 5);
            x.ticks(1);
            Check.due("a booster by 5: leg 0", x.leg(1, 0), 99);
            Check.due("a booster by 5: leg 1", x.leg(1, 1), 0);
            Check.due("the push of a booster does not work by 5", x.push(1, push, 1), 0);
        }
    }

    /** The valve 0 is pushed by the valve 1 and the other way round; neither sees the other's new leg. */
    private static void allAtOnce() {
        AirValves x = new AirValves();
        x.valve(1, 50);
        x.valve(1, 50);
        x.duct(0, 0, 1, 0, 1);
        x.duct(1, 0, 0, 0, 1);
        for (int tick = 1; tick <= 6; tick++) {
            x.ticks(1);
            Check.due("leg(0, 0) in tick " + tick, x.leg(0, 0), tick % 2 == 1 ? 50 : 0);
            Check.due("leg(1, 0) in tick " + tick, x.leg(1, 0), tick % 2 == 1 ? 50 : 0);
        }
    }

    private static void undo() {
        AirValves x = new AirValves();
        x.valve(0, 50);
        x.press(0, false);
        x.feed(0, 50);
        x.set(0, 2);
        Check.due("undo() of one that changed nothing", x.undo(), 3);
        Check.due("undo() of the next", x.undo(), 2);
        Check.due("undo() of the next", x.undo(), 1);
        Check.due("the valve is there", x.about(0), 1);
        Check.due("undo() of the valve", x.undo(), 0);
        Check.due("the valve is not there", x.about(0), 0);
        Check.state(x, "undo() of none", x::undo);
        Check.due("a valve behind undo", x.valve(2, 20), 0);
        Check.due("undo() of it", x.undo(), 0);
        Check.state(x, "undo() of none again", x::undo);
    }

    private static void undoOf(String what, ToIntFunction<AirValves> action) {
        AirValves x = net();
        String before = Check.view(x);
        action.applyAsInt(x);
        Check.due("undo() of " + what, x.undo(), ACTIONS);
        Check.due("the state behind undo() of " + what, Check.view(x), before);
        Check.due("what is remembered behind undo() of " + what, Check.undoAll(x), ACTIONS);
    }

    private static void undoOfEach() {
        undoOf("valve", x -> x.valve(2, 77));
        undoOf("duct", x -> x.duct(0, 1, 2, 1, 6));
        undoOf("remove", x -> x.remove(0));
        undoOf("press", x -> x.press(0, false));
        undoOf("leak", x -> x.leak(1, 20));
        undoOf("feed", x -> x.feed(2, 10));
        undoOf("set(0)", x -> x.set(0, 8));
        undoOf("set(1)", x -> x.set(1, 88));
        undoOf("ticks", x -> x.ticks(50));
    }

    private static void undoForgetsTheOldest() {
        AirValves x = new AirValves();
        x.valve(0, 10);
        for (int supply = 11; supply <= 40; supply++) {
            x.feed(0, supply);
        }
        for (int left = 13; left >= 0; left--) {
            Check.due("undo() with " + left + " left", x.undo(), left);
            Check.due("the supply with " + left + " left", x.valveOf(0, 1), 26 + left);
        }
        Check.state(x, "undo() of one that is forgotten", x::undo);
        for (int supply = 50; supply <= 57; supply++) {
            x.feed(0, supply);
        }
        Check.due("undo() of a new row", x.undo(), 7);
        Check.due("the supply in a new row", x.valveOf(0, 1), 56);
    }

    /** The last valve and the last duct come back too. */
    private static void undoOfAFullNet() {
        AirValves x = new AirValves();
        for (int v = 0; v < 10; v++) {
            x.valve(v == 9 ? 2 : 0, 50 + v);
        }
        for (int d = 0; d < 16; d++) {
            x.duct(8, 0, 9, 0, 1 + d % 6);
        }
        Check.due("ticks(1) of ten valves", x.ticks(1), 10);
        x.press(8, true);
        Check.due("ticks(2) of ten valves", x.ticks(2), 4);
        x.save(0);
        x.press(8, false);
        x.remove(15);
        x.ticks(20);
        x.undo();
        x.undo();
        fullNet("behind undo", x);
        x.ticks(20);
        x.restore(0);
        fullNet("behind restore", x);
    }

    private static void fullNet(String what, AirValves x) {
        Check.due(what + ": leg(8, 0)", x.leg(8, 0), 58);
        Check.due(what + ": leg(9, 1)", x.leg(9, 1), 59);
        Check.due(what + ": push(9, 0, 0)", x.push(9, 0, 0), 56);
        Check.due(what + ": valveOf(9, 2)", x.valveOf(9, 2), 1);
        Check.due(what + ": about(6)", x.about(6), 1);
        Check.due(what + ": ductOf(15, 4)", x.ductOf(15, 4), 4);
        Check.due(what + ": ductOf(12, 6)", x.ductOf(12, 6), 56);
    }
}
