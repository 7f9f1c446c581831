/** Promises 1 to 5: a new object, append, clearText, errorPosition, load. */
public final class TextTest {
    public static void main(String[] args) {
        newObject();
        append();
        clearText();
        errorPositions();
        everySignAtEveryPlace();
        loadMakesAll();
        loadLeavesOut();
        loadForgets();
        loadRefuses();
        loadTellsDigitsApart();
        loadStartsWithoutAir();
        Check.end("TextTest");
    }

    private static void newObject() {
        AirValves x = new AirValves();
        for (int what = 0; what <= 6; what++) {
            Check.due("new: about(" + what + ")", x.about(what), 0);
        }
        Check.due("new: setting(0)", x.setting(0), 2);
        Check.due("new: setting(1)", x.setting(1), 30);
        Check.due("new: errorPosition()", x.errorPosition(), 0);
        Check.due("new: restIn()", x.restIn(), 0);
        Check.due("new: tightest()", x.tightest(), AirValves.NONE);
        Check.due("new: clearText()", x.clearText(), 0);
        Check.state(x, "new: undo()", x::undo);
        Check.state(x, "new: load()", x::load);
        Check.state(x, "new: restore(0)", () -> x.restore(0));
        Check.state(x, "new: restore(1)", () -> x.restore(1));
        Check.index(x, "new: leg(0, 0)", () -> x.leg(0, 0));
        Check.index(x, "new: ductOf(0, 0)", () -> x.ductOf(0, 0));
        new AirValves().valve(0, 50);
        Check.due("new: about(0) beside another object", x.about(0), 0);
    }

    private static void append() {
        AirValves x = new AirValves();
        Check.due("append(0)", x.append(0), 1);
        Check.due("append(255)", x.append(255), 2);
        for (int c : new int[] {-1, 256, Integer.MIN_VALUE, Integer.MAX_VALUE, 'W' + 65536}) {
            Check.argument(x, "append(" + c + ")", () -> x.append(c));
        }
        for (int length = 3; length <= 120; length++) {
            Check.due("append to " + length, x.append('W'), length);
        }
        Check.state(x, "append to 121", () -> x.append('W'));
        Check.argument(x, "append(256) to a full text", () -> x.append(256));
        Check.argument(x, "append(-1) to a full text", () -> x.append(-1));
        Check.due("the length behind refused appends", x.clearText(), 120);
        Check.due("append to an emptied text", x.append('W'), 1);
        Check.due("errorPosition() of the new text", x.errorPosition(), AirValves.NONE);
        Check.state(x, "undo of an append", x::undo);
    }

    private static void clearText() {
        AirValves x = new AirValves();
        Check.write(x, "Wt01");
        x.valve(0, 20);
        Check.due("clearText()", x.clearText(), 4);
        Check.due("clearText() once more", x.clearText(), 0);
        Check.due("errorPosition() of no text", x.errorPosition(), 0);
        Check.due("about(0) behind clearText", x.about(0), 1);
        Check.due("undoAll behind clearText", Check.undoAll(x), 1);
    }

    private static void error(String text, int want) {
        AirValves x = new AirValves();
        Check.write(x, text);
        Check.due("errorPosition of \"" + text + "\"", x.errorPosition(), want);
        Check.due("errorPosition of \"" + text + "\" once more", x.errorPosition(), want);
        Check.due("length of \"" + text + "\"", x.clearText(), text.length());
    }

    private static void errorPositions() {
        error("", 0);
        error("w", 0);
        error("0", 0);
        error("vW", 0);
        error("W", -1);
        error("WW", 1);
        error("W ", 1);
        error("W0", 1);
        error("Wx", 1);
        error("WV010", 1);
        error("Wv", 2);
        error("Wv0", 3);
        error("Wv01", 4);
        error("Wv010", -1);
        error("Wv499", -1);
        error("Wv510", 2);
        error("Wv009", 3);
        error("Wv01:", 4);
        error("Wv01/", 4);
        error("Wv0100", 5);
        error("Wd", 2);
        error("Wd91916", -1);
        error("Wd00001", -1);
        error("Wd02", 3);
        error("Wda", 2);
        error("Wd00a", 4);
        error("Wd0002", 5);
        error("Wd00000", 6);
        error("Wd00007", 6);
        error("Wd0000", 6);
        error("Wk0", -1);
        error("Wk9", -1);
        error("Wk:", 2);
        error("Wk", 2);
        error("Wr0", -1);
        error("Wr9", -1);
        error("Wr", 2);
        error("Wrr", 2);
        error("Wl0000", -1);
        error("Wl0930", -1);
        error("Wl1530", -1);
        error("Wl1529", -1);
        error("Wl16", 3);
        error("Wl20", 2);
        error("Wl0031", 5);
        error("Wl0040", 4);
        error("Wl00", 4);
        error("Wl0", 3);
        error("Wl003", 5);
        error("Wt01", -1);
        error("Wt10", -1);
        error("Wt99", -1);
        error("Wt00", 3);
        error("Wt0", 3);
        error("Wt", 2);
        error("Wtt", 2);
        error("Wt01 t01", 4);
        error("Wk0r0t01l0000v010d00001", -1);
        error("Wk0r0t01l0000v010d00001k", 24);
        error("Wk0r0t01l0000v010d00001kW", 24);
        error("W" + "k0".repeat(59), -1);
        error("W" + "k0".repeat(59) + "k", 120);
        error("Wk" + "0k".repeat(59), 120);
        error("W" + "t01".repeat(39) + "k0", -1);
        error("W\u00ff", 1);
        error("Wk\u00ff", 2);
        error("\u0000", 0);
    }

    /** At each place of each command just the signs that its rule names may stand. */
    private static void everySignAtEveryPlace() {
        String[] commands = {"v210", "v199", "d10101", "k5", "r5", "l0030", "l1529", "t10", "t09"};
        String[][] allowed = {
            {"dkrlt", "01234", "123456789", "0123456789"},
            {"dkrlt", "01234", "123456789", "0123456789"},
            {"vkrlt", "0123456789", "01", "0123456789", "01", "123456"},
            {"r", "0123456789"},
            {"k", "0123456789"},
            {"t", "01", "0123456789", "0123", "0"},
            {"t", "01", "012345", "0123", "0123456789"},
            {"l", "0123456789", "0123456789"},
            {"l", "0123456789", "123456789"},
        };
        for (int i = 0; i < commands.length; i++) {
            for (int place = 1; place < commands[i].length(); place++) {
                AirValves x = new AirValves();
                for (int c = 0; c <= 255; c++) {
                    x.clearText();
                    x.append('W');
                    for (int k = 0; k < place; k++) {
                        x.append(commands[i].charAt(k));
                    }
                    int length = x.append(c);
                    boolean fine = allowed[i][place].indexOf((char) c) >= 0;
                    boolean whole = place == commands[i].length() - 1;
                    int want = !fine ? length - 1 : whole ? AirValves.NONE : length;
                    Check.due(commands[i].substring(0, place) + " and the sign " + c, x.errorPosition(), want);
                    if (c % 32 == 31) {
                        x = new AirValves();
                    }
                }
            }
        }
    }

    private static void loadMakesAll() {
        AirValves x = new AirValves();
        Check.write(x, "Wv080v150v260d00101d11202k0t04l0107");
        Check.due("load()", x.load(), 0);
        Check.due("valves", x.about(0), 3);
        Check.due("ducts", x.about(1), 2);
        Check.due("time", x.about(2), 4);
        Check.due("keys", x.about(5), 1);
        Check.due("crossings", x.about(6), 1);
        Check.due("kind of 1", x.valveOf(1, 0), 1);
        Check.due("supply of 2", x.valveOf(2, 1), 60);
        Check.due("from", x.ductOf(1, 0), 1);
        Check.due("leg", x.ductOf(1, 1), 1);
        Check.due("to", x.ductOf(1, 2), 2);
        Check.due("push", x.ductOf(1, 3), 0);
        Check.due("length", x.ductOf(1, 4), 2);
        Check.due("leak", x.ductOf(1, 5), 7);
        Check.due("leg 1 of the wall jet", x.leg(2, 1), 60);
        Check.write(x, "Wv080k0r0v112t99");
        Check.due("load() of another", x.load(), 0);
        Check.due("valves of another", x.about(0), 2);
        Check.due("ducts of another", x.about(1), 0);
        Check.due("time of another", x.about(2), 99);
        Check.due("keys of another", x.about(5), 0);
        Check.due("crossings of another", x.about(6), 0);
        Check.due("supply of 1 of another", x.valveOf(1, 1), 12);
        Check.due("load() once more", x.load(), 0);
        Check.due("time once more", x.about(2), 99);
        Check.due("the text is kept", x.clearText(), 16);
    }

    private static void loadLeavesOut() {
        AirValves x = new AirValves();
        Check.write(x, "Wk0v080k0v110k1d00101d00901d90101l0005l0105r1r2");
        Check.due("load() that leaves out", x.load(), 7);
        Check.due("valves", x.about(0), 2);
        Check.due("ducts", x.about(1), 1);
        Check.due("keys", x.about(5), 1);
        Check.due("leak", x.ductOf(0, 5), 5);
        Check.write(x, "W" + "v010".repeat(11) + "k9");
        Check.due("load() of 11 valves", x.load(), 1);
        Check.due("valves of 11", x.about(0), 10);
        Check.due("keys of 11", x.about(5), 512);
        Check.write(x, "Wv010" + "d00001".repeat(17) + "l1530");
        Check.due("load() of 17 ducts", x.load(), 1);
        Check.due("ducts of 17", x.about(1), 16);
        Check.due("leak of the last", x.ductOf(15, 5), 30);
        Check.write(x, "W" + "k0".repeat(59));
        Check.due("load() of 59 that are left out", x.load(), 59);
        Check.due("time of none", x.about(2), 0);
    }

    private static void loadForgets() {
        AirValves x = new AirValves();
        x.set(0, 9);
        x.set(1, 90);
        x.valve(2, 99);
        x.ticks(5);
        x.save(0);
        x.save(1);
        Check.write(x, "W");
        Check.due("load() of an empty net", x.load(), 0);
        Check.due("valves", x.about(0), 0);
        Check.due("time", x.about(2), 0);
        Check.due("setting(0)", x.setting(0), 2);
        Check.due("setting(1)", x.setting(1), 30);
        Check.state(x, "undo() behind load", x::undo);
        Check.state(x, "restore(0) behind load", () -> x.restore(0));
        Check.state(x, "restore(1) behind load", () -> x.restore(1));
        Check.write(x, "Wv010t01");
        x.load();
        Check.state(x, "undo() of a text's commands", x::undo);
    }

    private static void loadRefuses() {
        AirValves x = new AirValves();
        x.valve(0, 50);
        x.press(0, true);
        x.ticks(3);
        x.save(1);
        Check.write(x, "Wv010t00");
        Check.state(x, "load() of no net", x::load);
        Check.due("the text is kept", x.clearText(), 8);
        Check.state(x, "load() of no text", x::load);
        Check.due("restore(1) behind a refused load", x.restore(1), 3);
        x.ticks(1);
        Check.state(x, "load() of no text", x::load);
        Check.due("undo() behind a refused load", x.undo(), 0);
        Check.due("time", x.about(2), 3);
    }

    private static void loadTellsDigitsApart() {
        AirValves x = new AirValves();
        Check.write(x, "Wv010v120v230d20115d11016l0129");
        Check.due("load() of two ducts", x.load(), 0);
        int[][] due = {{2, 0, 1, 1, 5, 0}, {1, 1, 0, 1, 6, 29}};
        for (int d = 0; d < 2; d++) {
            for (int what = 0; what < 6; what++) {
                Check.due("ductOf(" + d + ", " + what + ") behind load", x.ductOf(d, what), due[d][what]);
            }
        }
    }

    /** What stood in the legs, the pushes and the ducts of another net is not in the new one. */
    private static void loadStartsWithoutAir() {
        AirValves x = new AirValves();
        for (int v = 0; v < 10; v++) {
            x.valve(v % 5, 90);
            x.duct(v, 0, v / 2, v % 2, 2);
        }
        x.ticks(30);
        x.leak(0, 20);
        Check.write(x, "Wv240v240d00001v440v040v040v340v340v340v340v340");
        Check.due("load() without ticks", x.load(), 0);
        for (int v = 0; v < 10; v++) {
            for (int side = 0; side <= 1; side++) {
                Check.due("leg(" + v + ", " + side + ") behind load", x.leg(v, side), 0);
                Check.due("push(" + v + ", " + side + ") behind load", x.push(v, side, 0), 0);
            }
            Check.due("valveOf(" + v + ", 2) behind load", x.valveOf(v, 2), 0);
        }
        Check.due("what is in the duct behind load", x.ductOf(0, 6), 0);
        Check.due("its leak", x.ductOf(0, 5), 0);
        Check.due("crossings behind load", x.about(6), 0);
    }
}
