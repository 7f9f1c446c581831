/** The edges of promises 1 to 5: a new object, append, clearText, errorPosition, load. */
public final class EdgeTextTest {
    private static final int NONE = AirValves.NONE;

    public static void main(String[] args) {
        newObjectHasNothing();
        newObjectRefuses();
        appendRange();
        appendToAFullText();
        clearTextOfEachLength();
        errorPositionOfEmptyAndFullTexts();
        errorPositionOfTextsThatEndTooSoon();
        errorPositionAtTheEdgesOfNumbers();
        loadRefusesTexts();
        loadOfTheLeastAndTheLongestText();
        loadAtTheEdgesOfNumbers();
        loadOfMoreThanFits();
        loadLeavesOutWhatWouldThrow();
        loadEmptiesAll();
        loadIsNoAction();
        Check.end("EdgeTextTest");
    }

    private static AirValves written(String text) {
        AirValves x = new AirValves();
        Check.write(x, text);
        return x;
    }

    private static AirValves richWith(String text) {
        AirValves x = Edge.rich();
        Check.write(x, text);
        return x;
    }

    // ---- promise 1

    private static void newObjectHasNothing() {
        for (int what = 0; what <= 6; what++) {
            int asked = what;
            Edge.due("new: about(" + what + ")", AirValves::new, x -> x.about(asked), 0);
        }
        Edge.due("new: setting(0)", AirValves::new, x -> x.setting(0), 2);
        Edge.due("new: setting(1)", AirValves::new, x -> x.setting(1), 30);
        Edge.due("new: restIn()", AirValves::new, AirValves::restIn, 0);
        Edge.due("new: tightest()", AirValves::new, AirValves::tightest, NONE);
        Edge.due("new: ticks(99)", AirValves::new, x -> x.ticks(99), 0);
        Edge.due("new: save(0)", AirValves::new, x -> x.save(0), 0);
        Edge.due("new: the first valve", AirValves::new, x -> x.valve(0, 10), 0);
        Edge.due("new: errorPosition()", AirValves::new, AirValves::errorPosition, 0);
        Edge.due("new: clearText()", AirValves::new, AirValves::clearText, 0);
    }

    private static void newObjectRefuses() {
        Edge.index("new: valveOf(0, 0)", AirValves::new, x -> x.valveOf(0, 0));
        Edge.index("new: leg(0, 0)", AirValves::new, x -> x.leg(0, 0));
        Edge.index("new: push(0, 0, 0)", AirValves::new, x -> x.push(0, 0, 0));
        Edge.index("new: ductOf(0, 0)", AirValves::new, x -> x.ductOf(0, 0));
        Edge.index("new: duct(0, 0, 0, 0, 1)", AirValves::new, x -> x.duct(0, 0, 0, 0, 1));
        Edge.index("new: remove(0)", AirValves::new, x -> x.remove(0));
        Edge.index("new: press(0, true)", AirValves::new, x -> x.press(0, true));
        Edge.index("new: leak(0, 0)", AirValves::new, x -> x.leak(0, 0));
        Edge.index("new: feed(0, 10)", AirValves::new, x -> x.feed(0, 10));
        Edge.index("new: beat(0)", AirValves::new, x -> x.beat(0));
        Edge.index("new: rule(0, 1, 0)", AirValves::new, x -> x.rule(0, 1, 0));
        Edge.index("new: ifLeak(0, 0, 0)", AirValves::new, x -> x.ifLeak(0, 0, 0));
        Edge.index("new: suspect(0, NONE)", AirValves::new, x -> x.suspect(0, NONE));
        Edge.state("new: undo()", AirValves::new, AirValves::undo);
        Edge.state("new: load()", AirValves::new, AirValves::load);
        Edge.state("new: restore(0)", AirValves::new, x -> x.restore(0));
        Edge.state("new: restore(1)", AirValves::new, x -> x.restore(1));
    }

    // ---- promise 2

    private static void appendRange() {
        for (int c : new int[] {0, 1, 127, 128, 254, 255}) {
            Edge.due("append(" + c + ") to an empty text", AirValves::new, x -> x.append(c), 1);
            Edge.due("append(" + c + ") to a text of 119", () -> written("W".repeat(119)), x -> x.append(c), 120);
        }
        for (int c : Edge.outside(0, 255)) {
            Edge.argument("append(" + c + ") to an empty text", AirValves::new, x -> x.append(c));
            Edge.argument("append(" + c + ")", Edge::rich, x -> x.append(c));
            Edge.argument("append(" + c + ") to a full text", Edge::fullText, x -> x.append(c));
        }
        Edge.argument("append(256 + 'k')", Edge::rich, x -> x.append(256 + 'k'));
        Edge.argument("append(65536 + 'k')", Edge::rich, x -> x.append(65536 + 'k'));
    }

    private static void appendToAFullText() {
        AirValves x = new AirValves();
        for (int length = 1; length <= 120; length++) {
            Check.due("append to " + length, x.append(length == 1 ? 'W' : length % 2 == 0 ? 'k' : '0'), length);
        }
        for (int c : new int[] {0, 'k', 255}) {
            Edge.state("append(" + c + ") to a full text", Edge::fullText, y -> y.append(c));
        }
        Check.due("errorPosition() of 120 characters", x.errorPosition(), 120);
        Check.due("clearText() of 120 characters", x.clearText(), 120);
        for (int length = 1; length <= 120; length++) {
            Check.due("append once more to " + length, x.append('W'), length);
        }
        Check.due("append to a text that was full once more", Edge.outcome(x, y -> y.append('W')),
                "IllegalStateException");
    }

    // ---- promise 3

    private static void clearTextOfEachLength() {
        for (int length : new int[] {0, 1, 2, 60, 119, 120}) {
            AirValves x = written("W".repeat(length));
            Check.due("clearText() of " + length, x.clearText(), length);
            Check.due("clearText() behind that", x.clearText(), 0);
            Check.due("append behind that", x.append('W'), 1);
            Check.due("errorPosition() behind that", x.errorPosition(), NONE);
        }
        Edge.unchanged("clearText() and the same text once more", Edge::rich, x -> {
            x.clearText();
            return Check.write(x, "Wv050v460k0t12");
        });
        Edge.state("load() behind clearText()", () -> richWith(""), AirValves::load);
    }

    // ---- promise 4

    private static void error(String text, int due) {
        Edge.due("errorPosition() of \"" + text + "\"", () -> written(text), AirValves::errorPosition, due);
    }

    private static void errorPositionOfEmptyAndFullTexts() {
        error("", 0);
        error("W", NONE);
        error("w", 0);
        String full = "W" + "k0".repeat(58) + "t01";
        error(full, NONE);
        error(full.substring(0, 119), 119);
        error(full.substring(0, 119) + "0", 119);
        error(full.substring(0, 119) + "t", 119);
        error("W" + "k0".repeat(59) + "k", 120);
        error("W" + "k0".repeat(59) + "W", 119);
        error("w" + "k0".repeat(59) + "k", 0);
        error("W".repeat(120), 1);
        AirValves x = Edge.fullText();
        Check.due("errorPosition() ahead of clearText()", x.errorPosition(), NONE);
        x.clearText();
        Check.due("errorPosition() behind clearText()", x.errorPosition(), 0);
        x.append('k');
        Check.due("errorPosition() of another text", x.errorPosition(), 0);
        Edge.due("errorPosition() of a full net", Edge::fullText, AirValves::errorPosition, NONE);
        Edge.unchanged("errorPosition() of a full net", Edge::fullText, AirValves::errorPosition);
        Edge.unchanged("errorPosition() of no net", () -> richWith("Wv010t00"), AirValves::errorPosition);
        Edge.unchanged("errorPosition()", Edge::rich, AirValves::errorPosition);
    }

    private static void errorPositionOfTextsThatEndTooSoon() {
        for (String command : new String[] {"v499", "d91916", "d00001", "k9", "r0", "l1530", "l0000", "t99", "t01"}) {
            for (int length = 1; length < command.length(); length++) {
                error("W" + command.substring(0, length), 1 + length);
                error("Wk0" + command.substring(0, length), 3 + length);
                error("W" + command.substring(0, length) + "W", 1 + length);
            }
            error("W" + command, NONE);
            error("W" + command + command, NONE);
            error("W" + command + "0", 1 + command.length());
            error("W" + command + " ", 1 + command.length());
        }
    }

    /** The first and the last number of each range, and those next to it. */
    private static void errorPositionAtTheEdgesOfNumbers() {
        error("Wv010", NONE);
        error("Wv410", NONE);
        error("Wv510", 2);
        error("Wv/10", 2);
        error("Wv099", NONE);
        error("Wv009", 3);
        error("Wv0:0", 3);
        error("Wv0100", 5);
        error("Wd00001", NONE);
        error("Wd91916", NONE);
        error("Wd:0001", 2);
        error("Wd/0001", 2);
        error("Wd02001", 3);
        error("Wd0/001", 3);
        error("Wd00:01", 4);
        error("Wd00/01", 4);
        error("Wd00021", 5);
        error("Wd000/1", 5);
        error("Wd00000", 6);
        error("Wd00007", 6);
        for (String letter : new String[] {"k", "r"}) {
            error("W" + letter + "0", NONE);
            error("W" + letter + "9", NONE);
            error("W" + letter + "/", 2);
            error("W" + letter + ":", 2);
            error("W" + letter + "10", 3);
        }
        error("Wl0000", NONE);
        error("Wl1500", NONE);
        error("Wl1600", 3);
        error("Wl2000", 2);
        error("Wl/000", 2);
        error("Wl1/00", 3);
        error("Wl0030", NONE);
        error("Wl0029", NONE);
        error("Wl0031", 5);
        error("Wl0040", 4);
        error("Wl00/0", 4);
        error("Wl003/", 5);
        error("Wt01", NONE);
        error("Wt99", NONE);
        error("Wt00", 3);
        error("Wt100", 4);
        error("Wt/1", 2);
        error("Wt:1", 2);
        error("Wt0:", 3);
    }

    // ---- promise 5

    private static void loadRefusesTexts() {
        String[] texts = {"", "w", "0", "v010", "Wv", "Wv01", "Wv510", "Wv009", "Wd00000", "Wd00007", "Wd02001",
            "Wd00021", "Wk", "Wl1600", "Wl0031", "Wt00", "Wt0", "Wv010t01t00", "Wv010t01 ", "WW",
            "W" + "k0".repeat(59) + "k"};
        for (String text : texts) {
            Edge.state("load() of \"" + text + "\"", () -> richWith(text), AirValves::load);
        }
        Edge.state("load() of a net that is too long for a text", () -> {
            AirValves x = written("W" + "t07".repeat(39) + "t0");
            Check.due("append to a full text", Edge.outcome(x, y -> y.append('7')), "IllegalStateException");
            return x;
        }, AirValves::load);
    }

    private static void loadOfTheLeastAndTheLongestText() {
        AirValves least = richWith("W");
        Check.due("load() of \"W\"", least.load(), 0);
        Check.due("the state behind load() of \"W\"", Check.view(least), Check.view(written("W")));
        Check.due("the text behind load() of \"W\"", least.clearText(), 1);
        AirValves longest = Edge.fullText();
        Check.due("load() of 120 characters", longest.load(), 2);
        Check.due("the time behind it", longest.about(2), 7 * 33);
        Check.due("the valves behind it", longest.about(0), 2);
        Check.due("the ducts behind it", longest.about(1), 1);
        Check.due("the leg of the key behind it", longest.leg(0, 0), 40);
        Check.due("the leg of the jet behind it", longest.leg(1, 1), 50);
        Check.due("load() of it once more", longest.load(), 2);
        Check.due("the time behind that", longest.about(2), 7 * 33);
        Check.due("the text behind that", longest.clearText(), 120);
    }

    private static void loadAtTheEdgesOfNumbers() {
        AirValves x = written("Wv010v499v012v112v212v312v012v012v012v412d00001d91916l0130l0000k0k8r8");
        Check.due("load() of the edges", x.load(), 0);
        int[][] valves = {{0, 10, 1}, {4, 99, 0}};
        for (int v = 0; v < valves.length; v++) {
            for (int what = 0; what <= 2; what++) {
                Check.due("edges: valveOf(" + v + ", " + what + ")", x.valveOf(v, what), valves[v][what]);
            }
        }
        int[][] ducts = {{0, 0, 0, 0, 1, 0}, {9, 1, 9, 1, 6, 30}};
        for (int d = 0; d < ducts.length; d++) {
            for (int what = 0; what <= 5; what++) {
                Check.due("edges: ductOf(" + d + ", " + what + ")", x.ductOf(d, what), ducts[d][what]);
            }
        }
        Check.due("edges: the keys", x.about(5), 1);
        for (int ticks : new int[] {1, 9, 10, 99}) {
            AirValves y = written("Wt" + ticks / 10 + ticks % 10);
            Check.due("load() of " + ticks + " ticks", y.load(), 0);
            Check.due("the time behind " + ticks + " ticks", y.about(2), ticks);
        }
    }

    private static void loadOfMoreThanFits() {
        AirValves valves = written("W" + "v010".repeat(10));
        Check.due("load() of 10 valves", valves.load(), 0);
        Check.due("10 valves", valves.about(0), 10);
        valves = written("W" + "v010".repeat(10) + "v499" + "k9");
        Check.due("load() of 11 valves", valves.load(), 1);
        Check.due("10 valves of 11", valves.about(0), 10);
        Check.due("the last one of 11", valves.valveOf(9, 0), 0);
        Check.due("it is pressed", valves.about(5), 512);
        AirValves ducts = written("Wv010" + "d00001".repeat(16));
        Check.due("load() of 16 ducts", ducts.load(), 0);
        Check.due("16 ducts", ducts.about(1), 16);
        ducts = written("Wv010" + "d00001".repeat(16) + "d01016" + "l1501");
        Check.due("load() of 17 ducts", ducts.load(), 1);
        Check.due("16 ducts of 17", ducts.about(1), 16);
        Check.due("the last one of 17", ducts.ductOf(15, 4), 1);
        Check.due("its leak", ducts.ductOf(15, 5), 1);
    }

    private static void leftOut(String text, int due) {
        Edge.due("load() of \"" + text + "\"", () -> written(text), AirValves::load, due);
    }

    private static void loadLeavesOutWhatWouldThrow() {
        leftOut("Wk0", 1);
        leftOut("Wr0", 1);
        leftOut("Wl0000", 1);
        leftOut("Wd00001", 1);
        leftOut("Wv010k0r0", 0);
        leftOut("Wv010k1r1", 2);
        leftOut("Wv010k9r9", 2);
        for (int kind = 1; kind <= 4; kind++) {
            leftOut("Wv" + kind + "10k0r0", 2);
        }
        leftOut("Wv010d00001l0000", 0);
        leftOut("Wv010d00001l0100", 1);
        leftOut("Wv010d00001l1530", 1);
        leftOut("Wv010d10001", 1);
        leftOut("Wv010d00101", 1);
        leftOut("Wv010d90901", 1);
        leftOut("Wt99t99", 0);
        leftOut("Wk0v010k0", 1);
        leftOut("W" + "k0".repeat(59), 59);
        AirValves x = written("Wv010k1v110k1");
        x.load();
        Check.due("what is behind a command that is left out is done", x.about(0), 2);
        Check.due("no key is pressed", x.about(5), 0);
    }

    private static void loadEmptiesAll() {
        String text = "Wv050v460k0t12";
        AirValves rich = Edge.rich();
        Check.due("load() with all in use", rich.load(), 0);
        AirValves fresh = written(text);
        Check.due("load() in a new object", fresh.load(), 0);
        Check.due("the state behind load()", Check.view(rich), Check.view(fresh));
        Check.due("undo() behind load()", Edge.outcome(rich, AirValves::undo), "IllegalStateException");
        Check.due("restore(0) behind load()", Edge.outcome(rich, x -> x.restore(0)), "IllegalStateException");
        Check.due("restore(1) behind load()", Edge.outcome(rich, x -> x.restore(1)), "IllegalStateException");
        Check.due("the text behind load()", rich.clearText(), text.length());
        AirValves full = Edge.full();
        full.load();
        Check.due("restore(0) behind load() in a full net", Edge.outcome(full, x -> x.restore(0)),
                "IllegalStateException");
        Check.due("restore(1) behind load() in a full net", Edge.outcome(full, x -> x.restore(1)),
                "IllegalStateException");
        Check.due("undo() behind load() in a full net", Edge.outcome(full, AirValves::undo), "IllegalStateException");
        Check.due("valves behind load() in a full net", full.about(0), 1);
        Check.due("ducts behind load() in a full net", full.about(1), 0);
    }

    /** The first action behind load is the only one that is remembered. */
    private static void loadIsNoAction() {
        AirValves x = Edge.rich();
        x.load();
        x.feed(0, 51);
        Check.due("undo() behind load() and an action", x.undo(), 0);
        Check.due("it takes back that action alone", x.valveOf(0, 1), 50);
        Check.due("and not the ticks of the text", x.about(2), 12);
        Check.due("undo() once more", Edge.outcome(x, AirValves::undo), "IllegalStateException");
    }
}
