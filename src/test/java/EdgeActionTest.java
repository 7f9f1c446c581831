import java.util.function.ToIntFunction;

/** The edges of promises 12 to 20: valve, duct, remove, press, leak, feed, set, ticks, undo. */
public final class EdgeActionTest {
    private static final int MOST = Integer.MAX_VALUE;

    public static void main(String[] args) {
        valveRange();
        valveTenAndEleven();
        ductRange();
        ductSixteenAndSeventeen();
        ductOrder();
        ductLeavesTheOthersAsTheyAre();
        removeRange();
        removeFromAFullNetUntilItIsEmpty();
        pressRange();
        pressOfOtherKinds();
        leakRange();
        feedRange();
        setRange();
        ticksRange();
        ticksOfEmptyAndFullNets();
        undoOfEmptyAndFullRows();
        undoOfWhatChangesNothing();
        undoAndRefusedCalls();
        undoAndWhatIsNoAction();
        undoTakesAllBack();
        Check.end("EdgeActionTest");
    }

    // ---- promise 12

    private static void valveRange() {
        for (int kind = 0; kind <= 4; kind++) {
            for (int supply : new int[] {10, 11, 98, 99}) {
                AirValves x = new AirValves();
                Check.due("valve(" + kind + ", " + supply + ")", x.valve(kind, supply), 0);
                Check.due("its kind", x.valveOf(0, 0), kind);
                Check.due("its supply", x.valveOf(0, 1), supply);
            }
        }
        for (int kind : Edge.outside(0, 4)) {
            Edge.argument("valve(" + kind + ", 10)", Edge::rich, x -> x.valve(kind, 10));
            Edge.argument("valve(" + kind + ", 99)", AirValves::new, x -> x.valve(kind, 99));
            Edge.argument("full: valve(" + kind + ", 10)", Edge::full, x -> x.valve(kind, 10));
        }
        for (int supply : Edge.outside(10, 99)) {
            Edge.argument("valve(0, " + supply + ")", Edge::rich, x -> x.valve(0, supply));
            Edge.argument("valve(4, " + supply + ")", AirValves::new, x -> x.valve(4, supply));
            Edge.argument("valve(5, " + supply + ")", Edge::rich, x -> x.valve(5, supply));
            Edge.argument("full: valve(0, " + supply + ")", Edge::full, x -> x.valve(0, supply));
        }
        Edge.argument("valve(0, 0)", Edge::rich, x -> x.valve(0, 0));
    }

    private static void valveTenAndEleven() {
        AirValves x = new AirValves();
        for (int v = 0; v < 10; v++) {
            Check.due("valve " + v, x.valve(v % 5, 10), v);
            Check.due("valves with it", x.about(0), v + 1);
        }
        for (int kind = 0; kind <= 4; kind++) {
            int asked = kind;
            Edge.state("valve 11 of kind " + kind, Edge::full, y -> y.valve(asked, 99));
        }
        x.undo();
        Check.due("valve 10 once more", x.valve(4, 99), 9);
        Check.due("valve 11 behind that", Edge.outcome(x, y -> y.valve(4, 99)), "IllegalStateException");
    }

    // ---- promise 13

    private static void ductRange() {
        for (int v : Edge.outside(0, Edge.RICH_VALVES - 1)) {
            Edge.index("duct(" + v + ", 0, 0, 0, 1)", Edge::rich, x -> x.duct(v, 0, 0, 0, 1));
            Edge.index("duct(0, 0, " + v + ", 0, 1)", Edge::rich, x -> x.duct(0, 0, v, 0, 1));
        }
        for (int side : Edge.outside(0, 1)) {
            Edge.index("duct(0, " + side + ", 0, 0, 1)", Edge::rich, x -> x.duct(0, side, 0, 0, 1));
            Edge.index("duct(0, 0, 0, " + side + ", 1)", Edge::rich, x -> x.duct(0, 0, 0, side, 1));
        }
        for (int length : Edge.outside(1, 6)) {
            Edge.argument("duct(0, 0, 0, 0, " + length + ")", Edge::rich, x -> x.duct(0, 0, 0, 0, length));
            Edge.argument("duct(5, 1, 5, 1, " + length + ")", Edge::rich, x -> x.duct(5, 1, 5, 1, length));
        }
        for (int length = 1; length <= 6; length++) {
            int asked = length;
            Edge.due("duct(0, 0, 0, 0, " + length + ")", Edge::rich, x -> x.duct(0, 0, 0, 0, asked), 5);
            Edge.due("duct(5, 1, 5, 1, " + length + ")", Edge::rich, x -> x.duct(5, 1, 5, 1, asked), 5);
        }
        AirValves x = Edge.rich();
        x.duct(5, 1, 4, 0, 6);
        int[] due = {5, 1, 4, 0, 6, 0, 0};
        for (int what = 0; what < due.length; what++) {
            Check.due("the new duct: " + what, x.ductOf(5, what), due[what]);
        }
    }

    private static void ductSixteenAndSeventeen() {
        AirValves x = new AirValves();
        x.valve(0, 10);
        for (int d = 0; d < 16; d++) {
            Check.due("duct " + d, x.duct(0, 0, 0, 0, 1), d);
            Check.due("ducts with it", x.about(1), d + 1);
        }
        Edge.state("duct 17", Edge::full, y -> y.duct(0, 0, 0, 0, 1));
        Edge.state("duct 17 of length 6", Edge::full, y -> y.duct(9, 1, 9, 1, 6));
        x.remove(0);
        Check.due("duct 16 once more", x.duct(0, 1, 0, 1, 6), 15);
        Check.due("duct 17 behind that", Edge.outcome(x, y -> y.duct(0, 0, 0, 0, 1)), "IllegalStateException");
    }

    /** A part that does not exist goes first, then the length, then that there are 16. */
    private static void ductOrder() {
        for (int length : new int[] {0, 7}) {
            Edge.index("duct from no valve of length " + length, Edge::rich, x -> x.duct(6, 0, 0, 0, length));
            Edge.index("duct from no leg of length " + length, Edge::rich, x -> x.duct(0, 2, 0, 0, length));
            Edge.index("duct to no valve of length " + length, Edge::rich, x -> x.duct(0, 0, 6, 0, length));
            Edge.index("duct to no push of length " + length, Edge::rich, x -> x.duct(0, 0, 0, 2, length));
            Edge.argument("duct 17 of length " + length, Edge::full, x -> x.duct(0, 0, 0, 0, length));
            Edge.index("duct 17 to no push of length " + length, Edge::full, x -> x.duct(0, 0, 0, 2, length));
        }
        Edge.index("duct 17 from no valve", Edge::full, x -> x.duct(10, 0, 0, 0, 1));
        Edge.index("duct 17 from no leg", Edge::full, x -> x.duct(0, -1, 0, 0, 1));
        Edge.index("duct 17 to no valve", Edge::full, x -> x.duct(0, 0, 10, 0, 1));
        Edge.index("duct 17 to no push", Edge::full, x -> x.duct(0, 0, 0, -1, 1));
    }

    /** Ducts of each length are full of air when another one is added, and stay so. */
    private static void ductLeavesTheOthersAsTheyAre() {
        AirValves x = new AirValves();
        x.valve(0, 99);
        for (int d = 0; d < 15; d++) {
            x.duct(0, 1, 0, 0, 1 + d % 6);
            x.leak(d, d);
            x.ticks(7);
        }
        x.press(0, true);
        x.duct(0, 1, 0, 0, 6);
        for (int tick = 0; tick <= 6; tick++) {
            for (int d = 0; d < 15; d++) {
                int length = 1 + d % 6;
                Check.due("out of the duct " + d + " behind " + tick, x.ductOf(d, 6),
                        tick < length ? 99 - 2 * length - d : 0);
            }
            Check.due("out of the new duct behind " + tick, x.ductOf(15, 6), 0);
            x.ticks(1);
        }
    }

    // ---- promise 14

    private static void removeRange() {
        for (int d : Edge.outside(0, Edge.RICH_DUCTS - 1)) {
            Edge.index("remove(" + d + ")", Edge::rich, x -> x.remove(d));
        }
        for (int d : Edge.outside(0, 15)) {
            Edge.index("full: remove(" + d + ")", Edge::full, x -> x.remove(d));
        }
        for (int d = 0; d < Edge.RICH_DUCTS; d++) {
            int asked = d;
            Edge.due("remove(" + d + ")", Edge::rich, x -> x.remove(asked), 4);
        }
        Edge.due("full: remove(0)", Edge::full, x -> x.remove(0), 15);
        Edge.due("full: remove(15)", Edge::full, x -> x.remove(15), 15);
    }

    /** The ducts are known by their lengths and leaks; the first, one between and the last one go. */
    private static void removeFromAFullNetUntilItIsEmpty() {
        for (int which = 0; which <= 2; which++) {
            AirValves x = new AirValves();
            x.valve(0, 99);
            int[] leaks = new int[16];
            for (int d = 0; d < 16; d++) {
                x.duct(0, 1, 0, 0, 1 + d % 6);
                x.leak(d, 10 + d);
                leaks[d] = 10 + d;
            }
            x.ticks(10);
            for (int left = 15; left >= 0; left--) {
                int d = which == 0 ? 0 : which == 1 ? left / 2 : left;
                Check.due("remove(" + d + ") of " + (left + 1), x.remove(d), left);
                System.arraycopy(leaks, d + 1, leaks, d, left - d);
                for (int k = 0; k < left; k += 3) {
                    Check.due("the leak of " + k + " of " + left, x.ductOf(k, 5), leaks[k]);
                    int length = 1 + (leaks[k] - 10) % 6;
                    Check.due("out of " + k + " of " + left, x.ductOf(k, 6), 99 - 2 * length - leaks[k]);
                }
            }
            Check.due("remove(0) of none", Edge.outcome(x, y -> y.remove(0)), "IndexOutOfBoundsException");
            Check.due("ducts, none", x.about(1), 0);
        }
    }

    // ---- promise 15

    private static void pressRange() {
        for (int v : Edge.outside(0, Edge.RICH_VALVES - 1)) {
            Edge.index("press(" + v + ", true)", Edge::rich, x -> x.press(v, true));
            Edge.index("press(" + v + ", false)", Edge::rich, x -> x.press(v, false));
        }
        for (int v : Edge.outside(0, 9)) {
            Edge.index("full: press(" + v + ", true)", Edge::full, x -> x.press(v, true));
        }
        Edge.due("press(0, true) of a pressed one", Edge::rich, x -> x.press(0, true), 0);
        Edge.due("press(0, false)", Edge::rich, x -> x.press(0, false), 1);
        Edge.due("full: press(5, false)", Edge::full, x -> x.press(5, false), 0);
        Edge.due("full: press(5, true)", Edge::full, x -> x.press(5, true), 1);
    }

    private static void pressOfOtherKinds() {
        for (int v = 2; v <= 5; v++) {
            int asked = v;
            Edge.state("press(" + v + ", true)", Edge::rich, x -> x.press(asked, true));
            Edge.state("press(" + v + ", false)", Edge::rich, x -> x.press(asked, false));
        }
        Edge.state("full: press(9, true)", Edge::full, x -> x.press(9, true));
    }

    // ---- promise 16

    private static void leakRange() {
        for (int d : Edge.outside(0, Edge.RICH_DUCTS - 1)) {
            Edge.index("leak(" + d + ", 0)", Edge::rich, x -> x.leak(d, 0));
            Edge.index("leak(" + d + ", 30)", Edge::rich, x -> x.leak(d, 30));
            Edge.index("leak(" + d + ", 31)", Edge::rich, x -> x.leak(d, 31));
            Edge.index("leak(" + d + ", -1)", Edge::rich, x -> x.leak(d, -1));
        }
        for (int v : Edge.outside(0, 30)) {
            Edge.argument("leak(0, " + v + ")", Edge::rich, x -> x.leak(0, v));
            Edge.argument("leak(4, " + v + ")", Edge::rich, x -> x.leak(4, v));
            Edge.index("new: leak(0, " + v + ")", AirValves::new, x -> x.leak(0, v));
        }
        for (int d : Edge.outside(0, 15)) {
            Edge.index("full: leak(" + d + ", 1)", Edge::full, x -> x.leak(d, 1));
        }
        AirValves x = Edge.full();
        for (int d : new int[] {0, 15}) {
            Check.due("leak(" + d + ", 30)", x.leak(d, 30), 0);
            Check.due("leak(" + d + ", 0)", x.leak(d, 0), 30);
            Check.due("leak(" + d + ", 29)", x.leak(d, 29), 0);
            Check.due("leak(" + d + ", 1)", x.leak(d, 1), 29);
            Check.due("its leak", x.ductOf(d, 5), 1);
        }
    }

    // ---- promise 17

    private static void feedRange() {
        for (int v : Edge.outside(0, Edge.RICH_VALVES - 1)) {
            Edge.index("feed(" + v + ", 10)", Edge::rich, x -> x.feed(v, 10));
            Edge.index("feed(" + v + ", 99)", Edge::rich, x -> x.feed(v, 99));
            Edge.index("feed(" + v + ", 9)", Edge::rich, x -> x.feed(v, 9));
            Edge.index("feed(" + v + ", 100)", Edge::rich, x -> x.feed(v, 100));
        }
        for (int supply : Edge.outside(10, 99)) {
            Edge.argument("feed(0, " + supply + ")", Edge::rich, x -> x.feed(0, supply));
            Edge.argument("feed(5, " + supply + ")", Edge::rich, x -> x.feed(5, supply));
            Edge.index("new: feed(0, " + supply + ")", AirValves::new, x -> x.feed(0, supply));
        }
        for (int v : Edge.outside(0, 9)) {
            Edge.index("full: feed(" + v + ", 50)", Edge::full, x -> x.feed(v, 50));
        }
        AirValves x = Edge.full();
        for (int v : new int[] {0, 9}) {
            Check.due("feed(" + v + ", 10)", x.feed(v, 10), 99 - v);
            Check.due("feed(" + v + ", 99)", x.feed(v, 99), 10);
            Check.due("feed(" + v + ", 11)", x.feed(v, 11), 99);
            Check.due("feed(" + v + ", 98)", x.feed(v, 98), 11);
            Check.due("its supply", x.valveOf(v, 1), 98);
        }
    }

    // ---- promise 18

    private static void setRange() {
        int[][] ranges = {{0, 9}, {5, 90}};
        for (int what = 0; what <= 1; what++) {
            int asked = what;
            for (int v : Edge.outside(ranges[what][0], ranges[what][1])) {
                Edge.argument("set(" + what + ", " + v + ")", Edge::rich, x -> x.set(asked, v));
            }
            AirValves x = new AirValves();
            int previous = what == 0 ? 2 : 30;
            for (int v : new int[] {ranges[what][0], ranges[what][1], ranges[what][0] + 1, ranges[what][1] - 1}) {
                Check.due("set(" + what + ", " + v + ")", x.set(what, v), previous);
                Check.due("setting(" + what + ") behind it", x.setting(what), v);
                Check.due("the other setting behind it", x.setting(1 - what), what == 0 ? 30 : 2);
                previous = v;
            }
        }
        for (int what : Edge.outside(0, 1)) {
            for (int v : new int[] {0, 5, 9, 90, -1, 91}) {
                Edge.argument("set(" + what + ", " + v + ")", Edge::rich, x -> x.set(what, v));
            }
        }
    }

    // ---- promise 19

    private static void ticksRange() {
        for (int n : Edge.outside(1, 99)) {
            Edge.argument("ticks(" + n + ")", Edge::rich, x -> x.ticks(n));
            Edge.argument("new: ticks(" + n + ")", AirValves::new, x -> x.ticks(n));
        }
        for (int n : new int[] {1, 2, 98, 99}) {
            Edge.due("the time behind ticks(" + n + ")", AirValves::new, x -> {
                x.ticks(n);
                return x.about(2);
            }, n);
        }
    }

    /** A meeting without air has none of its legs changed; ten keys that all change sides have 20. */
    private static void ticksOfEmptyAndFullNets() {
        AirValves x = new AirValves();
        Check.due("ticks(99) of no valves", x.ticks(99), 0);
        x.valve(3, 99);
        Check.due("ticks(1) of a meeting without air", x.ticks(1), 0);
        AirValves keys = new AirValves();
        for (int v = 0; v < 10; v++) {
            keys.valve(0, 50);
        }
        Check.due("ticks(1) of ten new keys", keys.ticks(1), 10);
        Check.due("ticks(1) of ten keys at rest", keys.ticks(1), 0);
        for (int v = 0; v < 10; v++) {
            keys.press(v, true);
        }
        Check.due("ticks(1) of ten keys that change sides", keys.ticks(1), 20);
        keys.press(9, false);
        Check.due("ticks(99) of the last one that does", keys.ticks(99), 2);
    }

    // ---- promise 20

    /** The supplies are those of the states: of n actions at most 14 can be taken back. */
    private static void undoOfEmptyAndFullRows() {
        Edge.state("undo() of none", AirValves::new, AirValves::undo);
        for (int actions : new int[] {1, 2, 12, 13, 14, 15, 16, 27, 28, 29, 60}) {
            AirValves x = new AirValves();
            x.valve(0, 10);
            x.undo();
            x.valve(0, 10);
            for (int i = 2; i <= actions; i++) {
                x.feed(0, 9 + i);
            }
            int remembered = Math.min(actions, 14);
            for (int i = 1; i <= remembered; i++) {
                Check.due("undo() " + i + " of " + actions, x.undo(), remembered - i);
                boolean gone = i == actions;
                Check.due("the valves behind it", x.about(0), gone ? 0 : 1);
                if (!gone) {
                    Check.due("the supply behind it", x.valveOf(0, 1), 9 + actions - i);
                }
            }
            String before = Check.view(x);
            Check.due("one undo() too many of " + actions, Edge.outcome(x, AirValves::undo), "IllegalStateException");
            Check.due("the state behind it", Check.view(x), before);
            Check.due("an action behind it", x.set(0, 9), 2);
            Check.due("undo() of that", x.undo(), 0);
        }
        partlyTakenBack();
    }

    /** Rows that are taken back in part and filled once more. */
    private static void partlyTakenBack() {
        AirValves x = new AirValves();
        x.valve(0, 10);
        for (int supply = 11; supply <= 30; supply++) {
            x.feed(0, supply);
        }
        for (int i = 1; i <= 5; i++) {
            Check.due("undo() " + i + " of a full row", x.undo(), 14 - i);
        }
        for (int i = 0; i < 5; i++) {
            x.feed(0, 40 + i);
        }
        Check.due("undo() of the row that is full again", x.undo(), 13);
        x.feed(0, 50);
        x.feed(0, 51);
        Check.due("undo() of one too many", x.undo(), 13);
        int[] due = {43, 42, 41, 40, 25, 24, 23, 22, 21, 20, 19, 18, 17};
        for (int i = 0; i < due.length; i++) {
            Check.due("undo() down to " + (12 - i), x.undo(), 12 - i);
            Check.due("the supply down there", x.valveOf(0, 1), due[i]);
        }
        Check.due("undo() of what is forgotten", Edge.outcome(x, AirValves::undo), "IllegalStateException");
    }

    private static void undoOfWhatChangesNothing() {
        same("press(0, true)", x -> x.press(0, true));
        same("leak(0, 6)", x -> x.leak(0, 6));
        same("feed(0, 90)", x -> x.feed(0, 90));
        same("set(0, 3)", x -> x.set(0, 3));
        same("set(1, 35)", x -> x.set(1, 35));
        AirValves x = new AirValves();
        x.ticks(1);
        x.set(0, 2);
        x.set(1, 30);
        Check.due("undo() of three that changed nothing but the time", x.undo(), 2);
        Check.due("undo() of the next", x.undo(), 1);
        Check.due("undo() of the next", x.undo(), 0);
        Check.due("the time behind that", x.about(2), 0);
    }

    /** Fifteen of such actions leave no older state. */
    private static void same(String what, ToIntFunction<AirValves> action) {
        AirValves x = Edge.rich();
        String before = Check.view(x);
        action.applyAsInt(x);
        Check.due("undo() of " + what + ", nothing becomes different", x.undo(), 13);
        for (int i = 0; i < 15; i++) {
            action.applyAsInt(x);
        }
        Check.due("undo() of all of " + what, Check.undoAll(x), 14);
        Check.due("the state behind that", Check.view(x), before);
    }

    /** Refused calls neither are remembered nor make a full row forget its oldest state. */
    private static void undoAndRefusedCalls() {
        AirValves x = Edge.rich();
        String due = Edge.remembered(Edge.rich());
        for (int i = 0; i < 3; i++) {
            Edge.outcome(x, y -> y.valve(5, 50));
            Edge.outcome(x, y -> y.duct(0, 0, 0, 0, 7));
            Edge.outcome(x, y -> y.remove(5));
            Edge.outcome(x, y -> y.press(2, true));
            Edge.outcome(x, y -> y.leak(0, 31));
            Edge.outcome(x, y -> y.feed(0, 100));
            Edge.outcome(x, y -> y.set(0, 10));
            Edge.outcome(x, y -> y.ticks(100));
            Edge.outcome(x, y -> y.restore(2));
            Edge.outcome(x, y -> y.append(MOST));
        }
        Check.due("what is remembered behind many refused calls", Edge.remembered(x), due);
    }

    private static void undoAndWhatIsNoAction() {
        AirValves x = Edge.rich();
        String due = Edge.remembered(Edge.rich());
        x.save(0);
        x.append('t');
        x.errorPosition();
        x.clearText();
        x.restIn();
        x.beat(0);
        x.rule(0, 1, 2);
        x.ifLeak(0, 1, 2);
        x.suspect(0, 1);
        x.tightest();
        x.runScript(1, 100001);
        x.simulate(1, 60);
        Check.due("what is remembered behind what is no action", Edge.remembered(x), due);
    }

    private static void back(String what, ToIntFunction<AirValves> action) {
        AirValves x = Edge.rich();
        String before = Check.view(x);
        action.applyAsInt(x);
        Check.due("undo() of " + what, x.undo(), 13);
        Check.due("the state behind undo() of " + what, Check.view(x), before);
    }

    private static void undoTakesAllBack() {
        back("valve(0, 10)", x -> x.valve(0, 10));
        back("duct(5, 1, 5, 1, 6)", x -> x.duct(5, 1, 5, 1, 6));
        back("remove(0)", x -> x.remove(0));
        back("remove(4)", x -> x.remove(4));
        back("press(0, false)", x -> x.press(0, false));
        back("leak(3, 30)", x -> x.leak(3, 30));
        back("feed(5, 99)", x -> x.feed(5, 99));
        back("set(0, 0)", x -> x.set(0, 0));
        back("set(1, 90)", x -> x.set(1, 90));
        back("ticks(1)", x -> x.ticks(1));
        back("ticks(99)", x -> x.ticks(99));
    }
}
