import java.util.function.Supplier;

/** The edges of promises 29 and 30: save, restore. */
public final class EdgeSlotTest {
    public static void main(String[] args) {
        saveRange();
        saveOfEmptyAndFullNets();
        saveOverAnother();
        saveChangesNothingElse();
        restoreRange();
        restoreOfEmptySlots();
        restoreForgetsEachRow();
        restoreKeepsTheSlotAndTheText();
        restoreIsNoAction();
        Check.end("EdgeSlotTest");
    }

    // ---- promise 29

    private static void saveRange() {
        for (int slot : Edge.outside(0, 1)) {
            Edge.index("save(" + slot + ")", Edge::rich, x -> x.save(slot));
            Edge.index("new: save(" + slot + ")", AirValves::new, x -> x.save(slot));
            Edge.index("full: save(" + slot + ")", Edge::full, x -> x.save(slot));
        }
        for (int slot = 0; slot <= 1; slot++) {
            int asked = slot;
            Edge.due("save(" + slot + ")", Edge::rich, x -> x.save(asked), 14);
            Edge.due("new: save(" + slot + ")", AirValves::new, x -> x.save(asked), 0);
        }
    }

    private static void comesBack(String what, Supplier<AirValves> made) {
        for (int slot = 0; slot <= 1; slot++) {
            AirValves x = made.get();
            int time = x.about(2);
            Check.due(what + ": save(" + slot + ")", x.save(slot), time);
            x.set(0, 8);
            x.set(1, 89);
            for (int v = 0; v < x.about(0); v++) {
                x.feed(v, 10 + v);
            }
            if (x.about(1) > 0) {
                x.remove(0);
            }
            x.ticks(99);
            Check.due(what + ": restore(" + slot + ")", x.restore(slot), time);
            AirValves twin = made.get();
            Check.due(what + ": the ticks behind restore(" + slot + ")", x.ticks(7), twin.ticks(7));
            Check.due(what + ": the state behind that", Check.view(x), Check.view(twin));
        }
    }

    private static void saveOfEmptyAndFullNets() {
        comesBack("no valves", AirValves::new);
        comesBack("rich", Edge::rich);
        AirValves x = Edge.full();
        x.save(0);
        for (int d = 15; d >= 0; d--) {
            x.remove(d);
        }
        x.ticks(99);
        Check.due("full: restore(0)", x.restore(0), 18);
        Check.due("the full net behind restore(0)", Check.view(x), Check.view(Edge.full()));
    }

    /** An empty net over a rich one, and the other way round. */
    private static void saveOverAnother() {
        for (int slot = 0; slot <= 1; slot++) {
            AirValves x = new AirValves();
            x.save(slot);
            x.valve(2, 50);
            x.ticks(5);
            Check.due("save(" + slot + ") over an empty net", x.save(slot), 5);
            x.ticks(1);
            Check.due("restore(" + slot + ") of the later one", x.restore(slot), 5);
            Check.due("its valves", x.about(0), 1);
            Check.write(x, "W");
            x.load();
            x.save(slot);
            x.valve(0, 10);
            Check.due("restore(" + slot + ") of an empty net behind load()", x.restore(slot), 0);
            Check.due("no valves", x.about(0), 0);
        }
    }

    /** Saving what is in the slot already changes nothing at all, least of all the other slot. */
    private static void saveChangesNothingElse() {
        for (int slot = 0; slot <= 1; slot++) {
            int asked = slot;
            Edge.unchanged("save(" + slot + ") once more", () -> {
                AirValves x = Edge.rich();
                x.save(asked);
                return x;
            }, x -> x.save(asked));
            AirValves x = Edge.rich();
            String due = Edge.remembered(Edge.rich());
            x.save(slot);
            Check.due("what is remembered behind save(" + slot + ")", Edge.remembered(x), due);
            AirValves y = Edge.rich();
            y.save(slot);
            AirValves twin = Edge.rich();
            Check.due("restore of the other slot", y.restore(1 - slot), twin.restore(1 - slot));
            Check.due("what is in the other slot", Check.view(y), Check.view(twin));
            Check.due("the text behind it", y.clearText(), 14);
        }
    }

    // ---- promise 30

    private static void restoreRange() {
        for (int slot : Edge.outside(0, 1)) {
            Edge.index("restore(" + slot + ")", Edge::rich, x -> x.restore(slot));
            Edge.index("new: restore(" + slot + ")", AirValves::new, x -> x.restore(slot));
            Edge.index("full: restore(" + slot + ")", Edge::full, x -> x.restore(slot));
        }
        Edge.due("restore(0)", Edge::rich, x -> x.restore(0), 7);
        Edge.due("restore(1)", Edge::rich, x -> x.restore(1), 3);
    }

    private static AirValves oneSaved(int slot) {
        AirValves x = new AirValves();
        x.valve(0, 50);
        x.ticks(4);
        x.save(slot);
        x.ticks(1);
        return x;
    }

    private static AirValves loaded() {
        AirValves x = Edge.rich();
        x.load();
        x.ticks(1);
        return x;
    }

    /** What a load that throws leaves, a load that does not throw takes. */
    private static void restoreOfEmptySlots() {
        for (int slot = 0; slot <= 1; slot++) {
            int asked = slot;
            Edge.state("new: restore(" + slot + ")", AirValves::new, x -> x.restore(asked));
            Edge.state("restore(" + slot + "), the other one is in use", () -> oneSaved(1 - asked),
                    x -> x.restore(asked));
            Edge.due("restore(" + slot + ") of the one in use", () -> oneSaved(asked), x -> x.restore(asked), 4);
            Edge.state("restore(" + slot + ") behind load()", EdgeSlotTest::loaded, x -> x.restore(asked));
            Edge.due("restore(" + slot + ") behind a save behind load()", () -> {
                AirValves x = loaded();
                x.save(asked);
                x.ticks(1);
                return x;
            }, x -> x.restore(asked), 13);
            Edge.state("restore(" + slot + ") behind a save of the other one behind load()", () -> {
                AirValves x = loaded();
                x.save(1 - asked);
                return x;
            }, x -> x.restore(asked));
            Edge.due("restore(" + slot + ") behind a load that throws", () -> {
                AirValves x = Edge.rich();
                x.append(' ');
                Check.due("load()", Edge.outcome(x, AirValves::load), "IllegalStateException");
                return x;
            }, x -> x.restore(asked), slot == 0 ? 7 : 3);
        }
    }

    private static void restoreForgetsEachRow() {
        for (int actions : new int[] {0, 1, 13, 14, 15, 29}) {
            AirValves x = new AirValves();
            x.valve(0, 50);
            x.save(0);
            for (int i = 0; i < actions; i++) {
                x.feed(0, 51 + i);
            }
            x.restore(0);
            Check.due("undo() behind restore(0) behind " + actions, Edge.outcome(x, AirValves::undo),
                    "IllegalStateException");
            Check.due("the supply behind that", x.valveOf(0, 1), 50);
            for (int i = 1; i <= 16; i++) {
                x.feed(0, 50 + i);
            }
            Check.due("states of a row that begins anew", Check.undoAll(x), 14);
            Check.due("the supply of the oldest one", x.valveOf(0, 1), 52);
        }
    }

    private static void restoreKeepsTheSlotAndTheText() {
        AirValves x = Edge.rich();
        Check.due("restore(0)", x.restore(0), 7);
        String saved = Check.view(x);
        x.feed(0, 10);
        x.set(1, 90);
        x.ticks(50);
        Check.due("restore(0) once more", x.restore(0), 7);
        Check.due("the state behind it", Check.view(x), saved);
        Check.due("restore(1) behind it", x.restore(1), 3);
        Check.due("the text behind all that", x.clearText(), 14);
    }

    private static void restoreIsNoAction() {
        AirValves x = Edge.rich();
        x.restore(1);
        x.restore(0);
        Check.due("undo() of a restore", Edge.outcome(x, AirValves::undo), "IllegalStateException");
        Check.due("the time behind it", x.about(2), 7);
    }
}
