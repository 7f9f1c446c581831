import java.util.function.Function;
import java.util.function.Supplier;
import java.util.function.ToIntFunction;

/**
 * Calls at the edges of what is allowed. Behind a refused call all that an object holds has to be as
 * in a twin that never had that call: the state, what will come out of its ducts, the remembered
 * states, the save slots and the text. Each look has an object of its own, for at most 512 calls.
 */
final class Edge {
    private static final int FUTURE = 7;

    private Edge() {
    }

    /** The numbers next to a range and the farthest ones, on both sides. */
    static int[] outside(int least, int most) {
        return new int[] {Integer.MIN_VALUE, least - 1, most + 1, Integer.MAX_VALUE};
    }

    static void due(String what, Supplier<AirValves> made, ToIntFunction<AirValves> call, int due) {
        Check.due(what, outcome(made.get(), call), Integer.toString(due));
    }

    static void index(String what, Supplier<AirValves> made, ToIntFunction<AirValves> call) {
        refused(what, made, call, "IndexOutOfBoundsException");
    }

    static void argument(String what, Supplier<AirValves> made, ToIntFunction<AirValves> call) {
        refused(what, made, call, "IllegalArgumentException");
    }

    static void state(String what, Supplier<AirValves> made, ToIntFunction<AirValves> call) {
        refused(what, made, call, "IllegalStateException");
    }

    private static void refused(String what, Supplier<AirValves> made, ToIntFunction<AirValves> call, String exception) {
        Check.due(what, outcome(made.get(), call), exception);
        same("a refused " + what, made, call);
    }

    /** The call answers, and changes nothing at all. */
    static void unchanged(String what, Supplier<AirValves> made, ToIntFunction<AirValves> call) {
        Check.due(what + " answers", outcome(made.get(), call).endsWith("Exception") ? 0 : 1, 1);
        same(what, made, call);
    }

    private static void same(String what, Supplier<AirValves> made, ToIntFunction<AirValves> call) {
        look("the state behind " + what, made, call, Check::view);
        look("the next ticks behind " + what, made, call, Edge::future);
        look("what is remembered behind " + what, made, call, Edge::remembered);
        look("the save slot 0 behind " + what, made, call, x -> slot(x, 0));
        look("the save slot 1 behind " + what, made, call, x -> slot(x, 1));
        look("the text behind " + what, made, call, Edge::text);
    }

    private static void look(String what, Supplier<AirValves> made, ToIntFunction<AirValves> call,
            Function<AirValves, String> look) {
        AirValves x = made.get();
        outcome(x, call);
        Check.due(what, look.apply(x), look.apply(made.get()));
    }

    static String outcome(AirValves x, ToIntFunction<AirValves> call) {
        try {
            return Integer.toString(call.applyAsInt(x));
        } catch (RuntimeException e) {
            return e.getClass().getSimpleName();
        }
    }

    private static String future(AirValves x) {
        StringBuilder view = new StringBuilder();
        for (int tick = 0; tick < FUTURE; tick++) {
            view.append(x.ticks(1)).append(':');
            for (int v = 0; v < x.about(0); v++) {
                for (int side = 0; side <= 1; side++) {
                    view.append(' ').append(x.leg(v, side)).append(' ').append(x.push(v, side, 0));
                }
            }
            view.append("; ");
        }
        return view.toString();
    }

    /** From the latest remembered state to the oldest one, each by some of what actions change. */
    static String remembered(AirValves x) {
        StringBuilder view = new StringBuilder();
        for (int i = 0; i < 20; i++) {
            view.append(outcome(x, AirValves::undo)).append(':');
            for (int what = 0; what <= 6; what++) {
                view.append(' ').append(x.about(what));
            }
            view.append(' ').append(x.setting(0)).append(' ').append(x.setting(1));
            if (x.about(0) > 0) {
                view.append(' ').append(x.valveOf(0, 1));
            }
            if (x.about(1) > 0) {
                view.append(' ').append(x.ductOf(0, 5));
            }
            view.append("; ");
        }
        return view.toString();
    }

    private static String slot(AirValves x, int slot) {
        return outcome(x, y -> y.restore(slot)) + ": " + Check.view(x);
    }

    private static String text(AirValves x) {
        StringBuilder view = new StringBuilder();
        view.append(x.errorPosition()).append(' ').append(outcome(x, AirValves::load)).append(' ');
        for (int what = 0; what <= 6; what++) {
            view.append(x.about(what)).append(' ');
        }
        for (int v = 0; v < x.about(0); v++) {
            view.append(x.valveOf(v, 0)).append(' ').append(x.valveOf(v, 1)).append(' ');
        }
        return view.append(x.clearText()).toString();
    }

    /** Two keys and one valve of each other kind, with air in all ducts, and all else in use. */
    static AirValves rich() {
        AirValves x = new AirValves();
        Check.write(x, "Wv050v460k0t12");
        x.valve(0, 80);
        x.valve(0, 70);
        x.valve(1, 50);
        x.valve(2, 60);
        x.valve(3, 40);
        x.valve(4, 30);
        x.duct(0, 0, 2, 0, 2);
        x.duct(1, 0, 3, 1, 1);
        x.duct(2, 1, 3, 0, 3);
        x.duct(3, 1, 4, 0, 6);
        x.duct(2, 0, 2, 1, 5);
        x.press(0, true);
        x.ticks(3);
        x.save(1);
        x.ticks(4);
        x.leak(3, 4);
        x.save(0);
        for (int supply = 81; supply <= 90; supply++) {
            x.feed(0, supply);
        }
        x.set(0, 3);
        x.set(1, 35);
        x.leak(0, 6);
        x.ticks(5);
        x.press(1, true);
        x.ticks(2);
        return x;
    }

    static final int RICH_VALVES = 6;
    static final int RICH_DUCTS = 5;

    /** Ten valves and sixteen ducts, the states that are remembered and both save slots in use. */
    static AirValves full() {
        AirValves x = new AirValves();
        Check.write(x, "Wv010t01");
        for (int v = 0; v < 10; v++) {
            x.valve(v % 5, 99 - v);
        }
        for (int d = 0; d < 16; d++) {
            x.duct(d % 10, d / 2 % 2, 9 - d % 10, d % 2, 1 + d % 6);
        }
        x.press(0, true);
        x.save(0);
        x.ticks(9);
        x.save(1);
        x.ticks(9);
        return x;
    }

    /** The text has 120 characters, and is a net; two of its commands are left out. */
    static AirValves fullText() {
        AirValves x = new AirValves();
        Check.write(x, "Wv040v150d00101k0r9k1" + "t07".repeat(33));
        return x;
    }
}
