import java.util.function.ToIntFunction;

/** Promises 6 to 11: about, valveOf, leg, push, ductOf, setting. */
public final class ReadingTest {
    public static void main(String[] args) {
        readings();
        about();
        valveOf();
        leg();
        push();
        whatWorks();
        ductOf();
        leastToEnter();
        setting();
        Check.end("ReadingTest");
    }

    /** A key, a jet that it pushes behind 1, a jet at a wall that this one pushes behind 2. */
    static AirValves chain() {
        AirValves x = new AirValves();
        x.valve(0, 80);
        x.valve(1, 50);
        x.valve(2, 60);
        x.duct(0, 0, 1, 0, 1);
        x.duct(1, 1, 2, 0, 2);
        x.press(0, true);
        return x;
    }

    /** Each refused call on a net of its own, for looking at the whole of one takes many calls. */
    private static void index(String what, ToIntFunction<AirValves> call) {
        AirValves x = chain();
        x.ticks(9);
        Check.index(x, what, () -> call.applyAsInt(x));
    }

    private static void argument(String what, ToIntFunction<AirValves> call) {
        AirValves x = chain();
        x.ticks(9);
        Check.argument(x, what, () -> call.applyAsInt(x));
    }

    private static void legs(AirValves x, String when, int... pressures) {
        for (int i = 0; i < pressures.length; i++) {
            Check.due(when + ": leg(" + i / 2 + ", " + i % 2 + ")", x.leg(i / 2, i % 2), pressures[i]);
        }
    }

    private static void readings() {
        AirValves x = chain();
        legs(x, "ahead of the first tick", 0, 0, 0, 0, 0, 0);
        x.ticks(1);
        legs(x, "tick 1", 80, 0, 50, 0, 60, 0);
        Check.due("tick 1: push(1, 0, 0)", x.push(1, 0, 0), 0);
        Check.due("tick 1: ductOf(0, 6)", x.ductOf(0, 6), 78);
        x.ticks(1);
        legs(x, "tick 2", 80, 0, 0, 50, 60, 0);
        Check.due("tick 2: push(1, 0, 0)", x.push(1, 0, 0), 78);
        Check.due("tick 2: push(1, 0, 1)", x.push(1, 0, 1), 1);
        Check.due("tick 2: ductOf(1, 6)", x.ductOf(1, 6), 0);
        x.ticks(1);
        legs(x, "tick 3", 80, 0, 0, 50, 60, 0);
        Check.due("tick 3: ductOf(1, 6)", x.ductOf(1, 6), 46);
        Check.due("tick 3: push(2, 0, 0)", x.push(2, 0, 0), 0);
        x.ticks(1);
        legs(x, "tick 4", 80, 0, 0, 50, 0, 60);
        Check.due("tick 4: push(2, 0, 0)", x.push(2, 0, 0), 46);
        Check.due("tick 4: valveOf(2, 2)", x.valveOf(2, 2), 1);
    }

    private static void about() {
        AirValves x = chain();
        x.valve(0, 20);
        x.press(3, true);
        int[] due = {4, 2, 0, 0, 0, 9, 0};
        for (int what = 0; what <= 6; what++) {
            Check.due("about(" + what + ")", x.about(what), due[what]);
        }
        x.ticks(4);
        due = new int[] {4, 2, 4, 4, 80 + 50 + 60 + 20, 9, 1};
        for (int what = 0; what <= 6; what++) {
            Check.due("about(" + what + ") behind 4 ticks", x.about(what), due[what]);
        }
        x.press(0, false);
        Check.due("about(5) of the other key", x.about(5), 8);
        for (int what : new int[] {-1, 7, Integer.MIN_VALUE, Integer.MAX_VALUE}) {
            argument("about(" + what + ")", y -> y.about(what));
        }
        crossings();
    }

    /** The jet at a wall goes over, stays without air, and goes back by the other push. */
    private static void crossings() {
        AirValves x = new AirValves();
        x.valve(0, 80);
        x.valve(0, 80);
        x.valve(2, 60);
        x.duct(0, 0, 2, 0, 1);
        x.duct(1, 0, 2, 1, 1);
        x.press(0, true);
        x.ticks(3);
        Check.due("over: about(6)", x.about(6), 1);
        Check.due("over: valveOf(2, 2)", x.valveOf(2, 2), 1);
        x.press(0, false);
        x.ticks(5);
        Check.due("it sticks: about(6)", x.about(6), 1);
        Check.due("it sticks: leg(2, 1)", x.leg(2, 1), 60);
        x.press(1, true);
        x.ticks(2);
        Check.due("back: about(6)", x.about(6), 2);
        Check.due("back: leg(2, 0)", x.leg(2, 0), 60);
        Check.due("back: leg(2, 1)", x.leg(2, 1), 0);
        Check.due("back: valveOf(2, 2)", x.valveOf(2, 2), 0);
        x.press(0, true);
        x.ticks(4);
        Check.due("both pushes: about(6)", x.about(6), 2);
        Check.due("both pushes: valveOf(2, 2)", x.valveOf(2, 2), 0);
        x.undo();
        Check.due("undone: about(6)", x.about(6), 2);
        for (int i = 0; i < 4; i++) {
            x.undo();
        }
        Check.due("undone further: about(6)", x.about(6), 1);
    }

    private static void valveOf() {
        AirValves x = chain();
        x.valve(3, 10);
        x.valve(4, 99);
        x.duct(2, 0, 2, 1, 6);
        int[][] due = {{0, 80, 1, 1, 0}, {1, 50, 0, 1, 1}, {2, 60, 0, 1, 2}, {3, 10, 0, 0, 0}, {4, 99, 0, 0, 0}};
        for (int v = 0; v < 5; v++) {
            for (int what = 0; what <= 4; what++) {
                Check.due("valveOf(" + v + ", " + what + ")", x.valveOf(v, what), due[v][what]);
            }
        }
        x.ticks(20);
        Check.due("valveOf(1, 2) of a jet that is pushed", x.valveOf(1, 2), 0);
        Check.due("valveOf(4, 2) of a booster", x.valveOf(4, 2), 0);
        for (int v : new int[] {-1, 3, 10, Integer.MIN_VALUE, Integer.MAX_VALUE}) {
            index("valveOf(" + v + ", 0)", y -> y.valveOf(v, 0));
            index("valveOf(" + v + ", 9)", y -> y.valveOf(v, 9));
        }
        for (int what : new int[] {-1, 5, Integer.MIN_VALUE, Integer.MAX_VALUE}) {
            argument("valveOf(0, " + what + ")", y -> y.valveOf(0, what));
        }
    }

    private static void leg() {
        AirValves x = chain();
        x.ticks(9);
        x.press(0, false);
        Check.due("leg(0, 0) ahead of the tick", x.leg(0, 0), 80);
        x.feed(1, 33);
        Check.due("leg(1, 1) ahead of the tick", x.leg(1, 1), 50);
        x.valve(4, 70);
        Check.due("leg(3, 1) of a new valve", x.leg(3, 1), 0);
        x.ticks(1);
        legs(x, "behind it", 0, 80, 0, 33, 0, 60, 0, 70);
        for (int v : new int[] {-1, 3, Integer.MIN_VALUE, Integer.MAX_VALUE}) {
            index("leg(" + v + ", 0)", y -> y.leg(v, 0));
        }
        for (int leg : new int[] {-1, 2, Integer.MIN_VALUE, Integer.MAX_VALUE}) {
            index("leg(0, " + leg + ")", y -> y.leg(0, leg));
        }
    }

    private static void push() {
        AirValves x = chain();
        x.duct(0, 0, 2, 0, 1);
        Check.due("push(2, 0, 0) at first", x.push(2, 0, 0), 0);
        Check.due("push(2, 0, 1) at first", x.push(2, 0, 1), 0);
        x.ticks(4);
        Check.due("push(2, 0, 0), the greater of 78 and 46", x.push(2, 0, 0), 78);
        Check.due("push(2, 1, 0) without ducts", x.push(2, 1, 0), 0);
        x.remove(2);
        Check.due("push(2, 0, 0) ahead of the tick", x.push(2, 0, 0), 78);
        x.ticks(1);
        Check.due("push(2, 0, 0) of the other duct", x.push(2, 0, 0), 46);
        for (int v : new int[] {-1, 3, Integer.MIN_VALUE, Integer.MAX_VALUE}) {
            index("push(" + v + ", 0, 0)", y -> y.push(v, 0, 0));
            index("push(" + v + ", 0, 5)", y -> y.push(v, 0, 5));
        }
        for (int other : new int[] {-1, 2, Integer.MIN_VALUE, Integer.MAX_VALUE}) {
            index("push(0, " + other + ", 0)", y -> y.push(0, other, 0));
            index("push(0, " + other + ", 7)", y -> y.push(0, other, 7));
            argument("push(0, 0, " + other + ")", y -> y.push(0, 0, other));
        }
    }

    /** A key of each supply pushes a valve of 50, by 2 less; 15 is the least that works, of 51 it is 16. */
    private static void whatWorks() {
        for (int kind = 0; kind <= 4; kind++) {
            AirValves x = new AirValves();
            x.valve(0, 16);
            x.valve(kind, 50);
            x.duct(0, 0, 1, 1, 1);
            x.press(0, true);
            x.ticks(2);
            Check.due("kind " + kind + ": 14 of 50", x.push(1, 1, 1), 0);
            x.feed(0, 17);
            x.ticks(2);
            Check.due("kind " + kind + ": 15 of 50", x.push(1, 1, 1), 1);
            x.feed(1, 51);
            Check.due("kind " + kind + ": 15 of 51", x.push(1, 1, 1), 0);
            x.feed(0, 18);
            x.ticks(2);
            Check.due("kind " + kind + ": 16 of 51", x.push(1, 1, 1), 1);
            x.set(1, 32);
            Check.due("kind " + kind + ": 16 of 51 by 32", x.push(1, 1, 1), 0);
            x.set(1, 31);
            Check.due("kind " + kind + ": 16 of 51 by 31", x.push(1, 1, 1), 1);
            Check.due("kind " + kind + ": the other push", x.push(1, 0, 1), 0);
        }
        AirValves least = new AirValves();
        least.valve(1, 10);
        least.set(1, 5);
        Check.due("a pressure of 0 never works", least.push(0, 0, 1), 0);
        least.valve(0, 10);
        least.duct(1, 1, 0, 0, 1);
        least.set(0, 9);
        least.ticks(2);
        Check.due("a pressure of 1", least.push(0, 0, 0), 1);
        Check.due("a pressure of 1 works", least.push(0, 0, 1), 1);
        least.set(1, 10);
        Check.due("a pressure of 1 just works", least.push(0, 0, 1), 1);
        least.set(1, 11);
        Check.due("a pressure of 1 does not work", least.push(0, 0, 1), 0);
    }

    private static void ductOf() {
        AirValves x = chain();
        x.duct(2, 1, 0, 1, 6);
        x.leak(2, 30);
        x.ticks(3);
        int[][] due = {{0, 0, 1, 0, 1, 0, 78, 17}, {1, 1, 2, 0, 2, 0, 46, 22}, {2, 1, 0, 1, 6, 30, 0, 66}};
        for (int d = 0; d < 3; d++) {
            for (int what = 0; what <= 7; what++) {
                Check.due("ductOf(" + d + ", " + what + ")", x.ductOf(d, what), due[d][what]);
            }
        }
        x.leak(1, 5);
        x.set(0, 9);
        Check.due("ductOf(1, 6) by the new loss and leak", x.ductOf(1, 6), 50 - 18 - 5);
        Check.due("ductOf(0, 6) by the new loss", x.ductOf(0, 6), 71);
        Check.due("ductOf(1, 7) by the new loss and leak", x.ductOf(1, 7), 18 + 18 + 5);
        x.set(0, 0);
        Check.due("ductOf(0, 6) without loss", x.ductOf(0, 6), 80);
        for (int d : new int[] {-1, 2, 16, Integer.MIN_VALUE, Integer.MAX_VALUE}) {
            index("ductOf(" + d + ", 0)", y -> y.ductOf(d, 0));
            index("ductOf(" + d + ", 8)", y -> y.ductOf(d, 8));
        }
        for (int what : new int[] {-1, 8, Integer.MIN_VALUE, Integer.MAX_VALUE}) {
            argument("ductOf(0, " + what + ")", y -> y.ductOf(0, what));
        }
    }

    private static void leastToEnter() {
        AirValves x = new AirValves();
        x.valve(0, 10);
        x.valve(1, 99);
        x.duct(0, 0, 0, 0, 1);
        x.duct(0, 0, 1, 1, 6);
        x.set(1, 5);
        Check.due("a part of 1 has to be 1", x.ductOf(0, 7), 1 + 2);
        Check.due("4.95 has to be 5", x.ductOf(1, 7), 5 + 12);
        x.set(0, 0);
        Check.due("without loss", x.ductOf(0, 7), 1);
        x.set(1, 90);
        Check.due("89.1 has to be 90", x.ductOf(1, 7), 90);
        x.leak(1, 9);
        Check.due("99 is just enough", x.ductOf(1, 7), 99);
        x.leak(1, 10);
        Check.due("99 is not enough", x.ductOf(1, 7), AirValves.NONE);
        x.set(0, 9);
        x.leak(1, 30);
        Check.due("99 is not nearly enough", x.ductOf(1, 7), AirValves.NONE);
        x.feed(1, 10);
        Check.due("enough by the new supply", x.ductOf(1, 7), 9 + 54 + 30);
        x.feed(1, 91);
        x.set(1, 11);
        x.set(0, 0);
        Check.due("10.01 has to be 11", x.ductOf(1, 7), 11 + 30);
    }

    private static void setting() {
        AirValves x = new AirValves();
        x.set(0, 7);
        x.set(1, 44);
        Check.due("setting(0)", x.setting(0), 7);
        Check.due("setting(1)", x.setting(1), 44);
        for (int what : new int[] {-1, 2, Integer.MIN_VALUE, Integer.MAX_VALUE}) {
            argument("setting(" + what + ")", y -> y.setting(what));
        }
    }
}
