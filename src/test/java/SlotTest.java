/** Promises 29 and 30: save, restore. */
public final class SlotTest {
    private static final int[] NO_SLOTS = {Integer.MIN_VALUE, -1, 2, Integer.MAX_VALUE};

    public static void main(String[] args) {
        saveAndRestore();
        saveIsNoAction();
        restoreForgets();
        slotsAreApart();
        theTextIsApart();
        refused();
        Check.end("SlotTest");
    }

    private static AirValves net() {
        AirValves x = ReadingTest.chain();
        x.ticks(3);
        return x;
    }

    private static void saveAndRestore() {
        AirValves x = net();
        x.set(0, 3);
        x.set(1, 31);
        x.leak(1, 4);
        Check.due("save(0)", x.save(0), 3);
        String before = Check.view(x);
        for (int i = 0; i < 2; i++) {
            x.ticks(40);
            x.remove(0);
            x.duct(2, 1, 2, 1, 6);
            x.valve(4, 11);
            x.feed(2, 99);
            x.press(0, false);
            x.leak(0, 30);
            x.set(0, 9);
            x.set(1, 90);
            Check.due("restore(0)", x.restore(0), 3);
            Check.due("the state behind restore(0), " + i, Check.view(x), before);
        }
        x.ticks(7);
        Check.due("save(0) over another", x.save(0), 10);
        x.ticks(1);
        Check.due("restore(0) of that", x.restore(0), 10);
        AirValves y = new AirValves();
        Check.due("save(1) of nothing", y.save(1), 0);
        y.valve(0, 50);
        Check.due("restore(1) of nothing", y.restore(1), 0);
        Check.due("valves", y.about(0), 0);
    }

    private static void saveIsNoAction() {
        AirValves x = net();
        x.save(0);
        Check.due("undo() behind save", x.undo(), 6);
        Check.due("the time behind it", x.about(2), 0);
        Check.due("restore(0) behind undo", x.restore(0), 3);
        Check.due("the time behind that", x.about(2), 3);
    }

    private static void restoreForgets() {
        AirValves x = net();
        x.save(1);
        x.ticks(2);
        x.restore(1);
        Check.state(x, "undo() behind restore", x::undo);
        x.press(0, false);
        Check.due("undo() of what came behind restore", x.undo(), 0);
        Check.due("the keys", x.about(5), 1);
        for (int supply = 10; supply < 40; supply++) {
            x.feed(0, supply);
        }
        x.restore(1);
        Check.due("the states that are remembered", Check.undoAll(x), 0);
        x.feed(0, 41);
        x.feed(0, 42);
        Check.due("undo() behind a full memory", x.undo(), 1);
        Check.due("the supply", x.valveOf(0, 1), 41);
    }

    private static void slotsAreApart() {
        AirValves x = net();
        x.save(0);
        x.ticks(5);
        Check.state(x, "restore(1), nothing is in it", () -> x.restore(1));
        x.save(1);
        x.ticks(1);
        Check.due("restore(0)", x.restore(0), 3);
        Check.due("restore(1)", x.restore(1), 8);
        Check.due("restore(0) again", x.restore(0), 3);
        AirValves other = new AirValves();
        Check.state(other, "restore(0) of another object", () -> other.restore(0));
    }

    private static void theTextIsApart() {
        AirValves x = new AirValves();
        Check.write(x, "Wt05");
        x.save(0);
        Check.write(x, "Wt07v010");
        x.restore(0);
        Check.due("the text behind restore", x.clearText(), 8);
        x.save(1);
        Check.write(x, "W");
        x.load();
        Check.state(x, "restore(0) behind load", () -> x.restore(0));
        Check.state(x, "restore(1) behind load", () -> x.restore(1));
        x.ticks(4);
        x.save(1);
        Check.state(x, "restore(0) behind a save(1)", () -> x.restore(0));
        Check.due("restore(1) of what was saved since", x.restore(1), 4);
    }

    private static void refused() {
        for (int slot : NO_SLOTS) {
            AirValves x = net();
            Check.index(x, "save(" + slot + ")", () -> x.save(slot));
            Check.index(x, "restore(" + slot + ")", () -> x.restore(slot));
            AirValves y = net();
            Edge.outcome(y, z -> z.save(slot));
            Edge.outcome(y, z -> z.restore(slot));
            Check.state(y, "restore(0) behind that", () -> y.restore(0));
            Check.state(y, "restore(1) behind that", () -> y.restore(1));
            Check.due("what is remembered behind that", Check.undoAll(y), 7);
        }
    }
}
