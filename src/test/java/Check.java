import java.util.function.IntSupplier;

/** Counts the answers that are not as due, and says which. */
final class Check {
    private static int wrong = 0;

    private Check() {
    }

    static void due(String what, long got, long want) {
        if (got != want) {
            wrong(what + " answered " + got + ", due is " + want);
        }
    }

    static void due(String what, String got, String want) {
        if (!got.equals(want)) {
            wrong(what + " answered " + got + ", due is " + want);
        }
    }

    static void wrong(String what) {
        wrong++;
        System.out.println(what);
    }

    static void index(AirValves x, String what, IntSupplier call) {
        refused(x, what, call, "IndexOutOfBoundsException");
    }

    static void argument(AirValves x, String what, IntSupplier call) {
        refused(x, what, call, "IllegalArgumentException");
    }

    static void state(AirValves x, String what, IntSupplier call) {
        refused(x, what, call, "IllegalStateException");
    }

    /** The call has to throw just that, and may change nothing that can be seen. */
    private static void refused(AirValves x, String what, IntSupplier call, String exception) {
        String before = view(x);
        String got;
        try {
            got = Integer.toString(call.getAsInt());
        } catch (RuntimeException e) {
            got = e.getClass().getSimpleName();
        }
        due(what, got, exception);
        due("the state behind " + what, view(x), before);
    }

    /** All that the readings tell of a net, and its text's error position. */
    static String view(AirValves x) {
        StringBuilder view = new StringBuilder();
        for (int what = 0; what <= 6; what++) {
            view.append(x.about(what)).append(' ');
        }
        view.append(x.setting(0)).append(' ').append(x.setting(1)).append(' ').append(x.errorPosition());
        for (int v = 0; v < x.about(0); v++) {
            view.append("; valve");
            for (int what = 0; what <= 4; what++) {
                view.append(' ').append(x.valveOf(v, what));
            }
            for (int side = 0; side <= 1; side++) {
                view.append(' ').append(x.leg(v, side)).append(' ').append(x.push(v, side, 0));
                view.append(' ').append(x.push(v, side, 1));
            }
        }
        for (int d = 0; d < x.about(1); d++) {
            view.append("; duct");
            for (int what = 0; what <= 7; what++) {
                view.append(' ').append(x.ductOf(d, what));
            }
        }
        return view.append("; rest ").append(x.restIn()).toString();
    }

    static int write(AirValves x, String text) {
        x.clearText();
        int length = 0;
        for (int i = 0; i < text.length(); i++) {
            length = x.append(text.charAt(i));
        }
        return length;
    }

    /** Counts how many states are remembered by taking all actions back. */
    static int undoAll(AirValves x) {
        int count = 0;
        for (int i = 0; i < 100; i++) {
            try {
                x.undo();
            } catch (IllegalStateException e) {
                return count;
            }
            count++;
        }
        return count;
    }

    static void end(String test) {
        System.out.println(test + (wrong == 0 ? ": all answers are as due" : ": " + wrong + " are not as due"));
        if (wrong != 0) {
            System.exit(1);
        }
    }
}
