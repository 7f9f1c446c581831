import java.util.Arrays;

/**
 * Valves of moving air that reckon; ../shared/DOC.md says what each call promises.
 *
 * Every row is made together with the object and used again, because what a run of calls makes
 * is counted and never given back.
 */
public final class AirValves {
    public static final int NONE = -1;

    private static final int MOST_VALVES = 10;
    private static final int MOST_DUCTS = 16;
    private static final int MOST_LENGTH = 6;
    private static final int MOST_LEAK = 30;
    private static final int LEAST_SUPPLY = 10;
    private static final int MOST_PRESSURE = 99;
    private static final int MOST_TICKS = 99;

    private static final int KEY = 0;
    private static final int JET = 1;
    private static final int WALL_JET = 2;
    private static final int MEETING = 3;
    private static final int BOOSTER = 4;
    private static final int BOOSTED_FROM = 5;

    private static final int LOSS = 0;
    private static final int STRENGTH = 1;
    private static final int FIRST_LOSS = 2;
    private static final int MOST_LOSS = 9;
    private static final int FIRST_STRENGTH = 30;
    private static final int LEAST_STRENGTH = 5;
    private static final int MOST_STRENGTH = 90;

    private static final int MOST_SIGNS = 120;
    private static final int MOST_SIGN = 255;
    private static final int MOST_REMEMBERED = 14;
    private static final int SLOTS = 2;

    private static final int LONGEST_WAIT_FOR_REST = 300;
    private static final int TICKS_AHEAD_OF_BEAT = 100;
    private static final int TICKS_OF_BEAT = 200;
    private static final int TICKS_OF_RULE = 60;
    private static final int SPARE_OF_HOPELESS = -99;

    private static final int MOST_COMMANDS = 3;
    private static final long GROUP = 1000000L;
    private static final int MOST_TURNS = 60;

    private static final int FINE = 0;
    private static final int NO_SUCH_PART = 1;
    private static final int OUT_OF_RANGE = 2;
    private static final int NOT_NOW = 3;

    private final Text text = new Text();
    private final Net now = new Net();
    private final Memory memory = new Memory();
    private final Net[] slots = new Net[SLOTS];
    private final boolean[] saved = new boolean[SLOTS];
    private final Net trial = new Net();
    private final Net probe = new Net();

    public AirValves() {
        for (int slot = 0; slot < SLOTS; slot++) {
            slots[slot] = new Net();
        }
    }

    // ---- text

    public int append(int c) throws IllegalArgumentException, IllegalStateException {
        if (!isIn(c, 0, MOST_SIGN)) {
            throw new IllegalArgumentException();
        }
        if (text.length >= MOST_SIGNS) {
            throw new IllegalStateException();
        }
        text.signs[text.length] = (char) c;
        text.length++;
        return text.length;
    }

    public int clearText() {
        int length = text.length;
        text.length = 0;
        return length;
    }

    public int errorPosition() {
        return text.firstError();
    }

    public int load() throws IllegalStateException {
        if (text.firstError() != NONE) {
            throw new IllegalStateException();
        }
        now.startAnew();
        memory.forgetAll();
        emptySlots();
        int leftOut = 0;
        text.readStart();
        for (int i = 0; i < MOST_SIGNS && text.hasMore(); i++) {
            text.readCommand();
            if (!text.doCommand(now)) {
                leftOut++;
            }
        }
        return leftOut;
    }

    // ---- what there is

    public int about(int what) throws IllegalArgumentException {
        switch (what) {
            case 0:
                return now.valves;
            case 1:
                return now.ducts;
            case 2:
                return now.time;
            case 3:
                return now.legsUnderPressure();
            case 4:
                return now.pressureOfAllLegs();
            case 5:
                return now.pressedKeys();
            case 6:
                return now.crossings;
            default:
                throw new IllegalArgumentException();
        }
    }

    public int valveOf(int v, int what) throws IndexOutOfBoundsException, IllegalArgumentException {
        if (!now.hasValve(v)) {
            throw new IndexOutOfBoundsException();
        }
        switch (what) {
            case 0:
                return now.kinds[v];
            case 1:
                return now.supplies[v];
            case 2:
                return now.sides[v];
            case 3:
                return now.ductsFrom(v);
            case 4:
                return now.ductsTo(v);
            default:
                throw new IllegalArgumentException();
        }
    }

    public int leg(int v, int leg) throws IndexOutOfBoundsException {
        if (!now.hasEnd(v, leg)) {
            throw new IndexOutOfBoundsException();
        }
        return now.legs[endOf(v, leg)];
    }

    public int push(int v, int push, int what) throws IndexOutOfBoundsException, IllegalArgumentException {
        if (!now.hasEnd(v, push)) {
            throw new IndexOutOfBoundsException();
        }
        switch (what) {
            case 0:
                return now.pushes[endOf(v, push)];
            case 1:
                return now.works(endOf(v, push)) ? 1 : 0;
            default:
                throw new IllegalArgumentException();
        }
    }

    public int ductOf(int d, int what) throws IndexOutOfBoundsException, IllegalArgumentException {
        if (!now.hasDuct(d)) {
            throw new IndexOutOfBoundsException();
        }
        switch (what) {
            case 0:
                return now.sources[d] / 2;
            case 1:
                return now.sources[d] % 2;
            case 2:
                return now.targets[d] / 2;
            case 3:
                return now.targets[d] % 2;
            case 4:
                return now.lengths[d];
            case 5:
                return now.leaks[d];
            case 6:
                return now.nextOutOf(d);
            case 7:
                return now.enoughFor(d);
            default:
                throw new IllegalArgumentException();
        }
    }

    public int setting(int what) throws IllegalArgumentException {
        if (!isIn(what, LOSS, STRENGTH)) {
            throw new IllegalArgumentException();
        }
        return now.settings[what];
    }

    // ---- actions

    public int valve(int kind, int supply) throws IllegalArgumentException, IllegalStateException {
        refuse(Action.faultOfValve(now, kind, supply));
        memory.keep(now);
        Action.tryValve(now, kind, supply);
        return now.valves - 1;
    }

    public int duct(int from, int leg, int to, int push, int length)
            throws IndexOutOfBoundsException, IllegalArgumentException, IllegalStateException {
        refuse(Action.faultOfDuct(now, from, leg, to, push, length));
        memory.keep(now);
        Action.tryDuct(now, from, leg, to, push, length);
        return now.ducts - 1;
    }

    public int remove(int d) throws IndexOutOfBoundsException {
        refuse(Action.faultOfRemove(now, d));
        memory.keep(now);
        Action.tryRemove(now, d);
        return now.ducts;
    }

    public int press(int v, boolean pressed) throws IndexOutOfBoundsException, IllegalStateException {
        refuse(Action.faultOfPress(now, v));
        memory.keep(now);
        int previous = now.sides[v];
        Action.tryPress(now, v, pressed);
        return now.sides[v] == previous ? 0 : 1;
    }

    public int leak(int d, int v) throws IndexOutOfBoundsException, IllegalArgumentException {
        refuse(Action.faultOfLeak(now, d, v));
        memory.keep(now);
        int previous = now.leaks[d];
        Action.tryLeak(now, d, v);
        return previous;
    }

    public int feed(int v, int supply) throws IndexOutOfBoundsException, IllegalArgumentException {
        refuse(Action.faultOfFeed(now, v, supply));
        memory.keep(now);
        int previous = now.supplies[v];
        Action.tryFeed(now, v, supply);
        return previous;
    }

    public int set(int what, int v) throws IllegalArgumentException {
        refuse(Action.faultOfSet(what, v));
        memory.keep(now);
        int previous = now.settings[what];
        Action.trySet(now, what, v);
        return previous;
    }

    public int ticks(int n) throws IllegalArgumentException {
        refuse(Action.faultOfTicks(n));
        memory.keep(now);
        trial.copyFrom(now);
        Action.tryTicks(now, n);
        return now.legsUnlike(trial);
    }

    public int undo() throws IllegalStateException {
        if (memory.count == 0) {
            throw new IllegalStateException();
        }
        memory.takeBack(now);
        return memory.count;
    }

    // ---- what would be

    public int restIn() {
        trial.copyFrom(now);
        for (int wait = 0; wait <= LONGEST_WAIT_FOR_REST; wait++) {
            if (!trial.passTick()) {
                return wait;
            }
        }
        return NONE;
    }

    public int beat(int v) throws IndexOutOfBoundsException {
        if (!now.hasValve(v)) {
            throw new IndexOutOfBoundsException();
        }
        trial.copyFrom(now);
        return trial.findBeat(v);
    }

    public int rule(int a, int b, int v) throws IndexOutOfBoundsException, IllegalArgumentException {
        if (!now.hasValve(a) || !now.hasValve(b) || !now.hasValve(v)) {
            throw new IndexOutOfBoundsException();
        }
        if (a == b || now.kinds[a] != KEY || now.kinds[b] != KEY) {
            throw new IllegalArgumentException();
        }
        int set = 0;
        for (int pressed = 0; pressed < 4; pressed++) {
            trial.copyFrom(now);
            trial.sides[a] = pressed % 2;
            trial.sides[b] = pressed / 2;
            Action.tryTicks(trial, TICKS_OF_RULE);
            if (trial.legs[endOf(v, 0)] > 0) {
                set |= 1 << pressed;
            }
            if (trial.passTick()) {
                return NONE;
            }
        }
        return set;
    }

    public int ifLeak(int d, int leak, int v) throws IndexOutOfBoundsException, IllegalArgumentException {
        if (!now.hasDuct(d) || !now.hasValve(v)) {
            throw new IndexOutOfBoundsException();
        }
        if (!isIn(leak, 0, MOST_LEAK)) {
            throw new IllegalArgumentException();
        }
        return findBeatWithLeak(d, leak, v);
    }

    public int suspect(int v, int beat) throws IndexOutOfBoundsException, IllegalArgumentException {
        if (!now.hasValve(v)) {
            throw new IndexOutOfBoundsException();
        }
        if (beat != NONE && !isIn(beat, 1, TICKS_OF_BEAT)) {
            throw new IllegalArgumentException();
        }
        for (int d = 0; d < now.ducts; d++) {
            for (int leak = 1; leak <= MOST_LEAK && now.leaks[d] == 0; leak++) {
                if (findBeatWithLeak(d, leak, v) == beat) {
                    return d;
                }
            }
        }
        return NONE;
    }

    public int tightest() {
        int found = NONE;
        int least = 0;
        for (int d = 0; d < now.ducts; d++) {
            if (now.legs[now.sources[d]] > 0) {
                int spare = now.spareOf(d);
                if (found == NONE || spare < least) {
                    found = d;
                    least = spare;
                }
            }
        }
        return found;
    }

    // ---- scripts, simulations

    public int runScript(int n, long script) throws IllegalArgumentException {
        if (!isIn(n, 1, MOST_COMMANDS) || script < 0 || withoutGroups(script, n) != 0) {
            throw new IllegalArgumentException();
        }
        trial.copyFrom(now);
        for (int i = 0; i < n; i++) {
            int group = (int) (withoutGroups(script, n - 1 - i) % GROUP);
            if (!Script.succeeds(trial, probe, group)) {
                return i;
            }
        }
        return NONE;
    }

    public int simulate(long seed, int m) throws IllegalArgumentException {
        if (!isIn(m, 1, MOST_TURNS)) {
            throw new IllegalArgumentException();
        }
        trial.copyFrom(now);
        long x = seed;
        for (int turn = 0; turn < m; turn++) {
            x = x * 6364136223846793005L + 1442695040888963407L;
            Script.doTurn(trial, (int) (x >>> 33));
        }
        return 1000 * trial.legsUnderPressure() + trial.pressureOfAllLegs() % 1000;
    }

    // ---- save slots

    public int save(int slot) throws IndexOutOfBoundsException {
        if (!isIn(slot, 0, SLOTS - 1)) {
            throw new IndexOutOfBoundsException();
        }
        slots[slot].copyFrom(now);
        saved[slot] = true;
        return now.time;
    }

    public int restore(int slot) throws IndexOutOfBoundsException, IllegalStateException {
        if (!isIn(slot, 0, SLOTS - 1)) {
            throw new IndexOutOfBoundsException();
        }
        if (!saved[slot]) {
            throw new IllegalStateException();
        }
        now.copyFrom(slots[slot]);
        memory.forgetAll();
        return now.time;
    }

    // ---- behind the face

    private static boolean isIn(int number, int least, int most) {
        return number >= least && number <= most;
    }

    /** Legs and pushes stand in rows, two for each valve; this is the place of one of them. */
    private static int endOf(int v, int side) {
        return 2 * v + side;
    }

    private static void refuse(int fault) {
        if (fault == NO_SUCH_PART) {
            throw new IndexOutOfBoundsException();
        }
        if (fault == OUT_OF_RANGE) {
            throw new IllegalArgumentException();
        }
        if (fault == NOT_NOW) {
            throw new IllegalStateException();
        }
    }

    private void emptySlots() {
        for (int slot = 0; slot < SLOTS; slot++) {
            saved[slot] = false;
        }
    }

    private static long withoutGroups(long script, int groups) {
        long rest = script;
        for (int i = 0; i < groups; i++) {
            rest /= GROUP;
        }
        return rest;
    }

    private int findBeatWithLeak(int d, int leak, int v) {
        trial.copyFrom(now);
        trial.leaks[d] = leak;
        return trial.findBeat(v);
    }

    /** A state: all that actions change. What is asked of it has to exist. */
    private static final class Net {
        int time;
        int crossings;
        int valves;
        int ducts;
        final int[] settings = {FIRST_LOSS, FIRST_STRENGTH};
        final int[] kinds = new int[MOST_VALVES];
        final int[] supplies = new int[MOST_VALVES];
        /** Of a key 1 if it is pressed, of a jet at a wall its leg, of all others always 0. */
        final int[] sides = new int[MOST_VALVES];
        final int[] legs = new int[2 * MOST_VALVES];
        final int[] pushes = new int[2 * MOST_VALVES];
        final int[] sources = new int[MOST_DUCTS];
        final int[] targets = new int[MOST_DUCTS];
        final int[] lengths = new int[MOST_DUCTS];
        final int[] leaks = new int[MOST_DUCTS];
        /** What is in the ducts, for each MOST_LENGTH places; the first one comes out next. */
        final int[] air = new int[MOST_DUCTS * MOST_LENGTH];
        /** No part of the state: only a tick uses it. */
        private final int[] arriving = new int[2 * MOST_VALVES];

        void startAnew() {
            time = 0;
            crossings = 0;
            valves = 0;
            ducts = 0;
            settings[LOSS] = FIRST_LOSS;
            settings[STRENGTH] = FIRST_STRENGTH;
        }

        void copyFrom(Net other) {
            time = other.time;
            crossings = other.crossings;
            valves = other.valves;
            ducts = other.ducts;
            System.arraycopy(other.settings, 0, settings, 0, settings.length);
            System.arraycopy(other.kinds, 0, kinds, 0, MOST_VALVES);
            System.arraycopy(other.supplies, 0, supplies, 0, MOST_VALVES);
            System.arraycopy(other.sides, 0, sides, 0, MOST_VALVES);
            System.arraycopy(other.legs, 0, legs, 0, 2 * MOST_VALVES);
            System.arraycopy(other.pushes, 0, pushes, 0, 2 * MOST_VALVES);
            System.arraycopy(other.sources, 0, sources, 0, MOST_DUCTS);
            System.arraycopy(other.targets, 0, targets, 0, MOST_DUCTS);
            System.arraycopy(other.lengths, 0, lengths, 0, MOST_DUCTS);
            System.arraycopy(other.leaks, 0, leaks, 0, MOST_DUCTS);
            System.arraycopy(other.air, 0, air, 0, MOST_DUCTS * MOST_LENGTH);
        }

        boolean hasValve(int v) {
            return v >= 0 && v < valves;
        }

        boolean hasEnd(int v, int side) {
            return hasValve(v) && isIn(side, 0, 1);
        }

        boolean hasDuct(int d) {
            return d >= 0 && d < ducts;
        }

        void addValve(int kind, int supply) {
            kinds[valves] = kind;
            supplies[valves] = supply;
            sides[valves] = 0;
            Arrays.fill(legs, endOf(valves, 0), endOf(valves, 2), 0);
            Arrays.fill(pushes, endOf(valves, 0), endOf(valves, 2), 0);
            valves++;
        }

        void addDuct(int source, int target, int length) {
            sources[ducts] = source;
            targets[ducts] = target;
            lengths[ducts] = length;
            leaks[ducts] = 0;
            Arrays.fill(air, ducts * MOST_LENGTH, (ducts + 1) * MOST_LENGTH, 0);
            ducts++;
        }

        void removeDuct(int d) {
            int behind = ducts - 1 - d;
            System.arraycopy(sources, d + 1, sources, d, behind);
            System.arraycopy(targets, d + 1, targets, d, behind);
            System.arraycopy(lengths, d + 1, lengths, d, behind);
            System.arraycopy(leaks, d + 1, leaks, d, behind);
            System.arraycopy(air, (d + 1) * MOST_LENGTH, air, d * MOST_LENGTH, behind * MOST_LENGTH);
            ducts--;
        }

        int legsUnderPressure() {
            int count = 0;
            for (int end = 0; end < 2 * valves; end++) {
                if (legs[end] > 0) {
                    count++;
                }
            }
            return count;
        }

        int pressureOfAllLegs() {
            int sum = 0;
            for (int end = 0; end < 2 * valves; end++) {
                sum += legs[end];
            }
            return sum;
        }

        int legsUnlike(Net other) {
            int count = 0;
            for (int end = 0; end < 2 * valves; end++) {
                if (legs[end] != other.legs[end]) {
                    count++;
                }
            }
            return count;
        }

        int pressedKeys() {
            int set = 0;
            for (int v = 0; v < valves; v++) {
                if (kinds[v] == KEY && sides[v] == 1) {
                    set |= 1 << v;
                }
            }
            return set;
        }

        int ductsFrom(int v) {
            int count = 0;
            for (int d = 0; d < ducts; d++) {
                if (sources[d] / 2 == v) {
                    count++;
                }
            }
            return count;
        }

        int ductsTo(int v) {
            int count = 0;
            for (int d = 0; d < ducts; d++) {
                if (targets[d] / 2 == v) {
                    count++;
                }
            }
            return count;
        }

        boolean works(int end) {
            return pushes[end] != 0 && 100 * pushes[end] >= supplies[end / 2] * settings[STRENGTH];
        }

        int lostIn(int d) {
            return lengths[d] * settings[LOSS] + leaks[d];
        }

        int nextOutOf(int d) {
            return Math.max(0, air[d * MOST_LENGTH] - lostIn(d));
        }

        /** The least supply and strength still ask for a part of 1, so rounding up never tells 0. */
        int enoughFor(int d) {
            int asked = (supplies[targets[d] / 2] * settings[STRENGTH] + 99) / 100;
            int enough = asked + lostIn(d);
            return enough <= MOST_PRESSURE ? enough : NONE;
        }

        int spareOf(int d) {
            int enough = enoughFor(d);
            return enough == NONE ? SPARE_OF_HOPELESS : legs[sources[d]] - enough;
        }

        /**
         * Answers whether the tick changed anything; if not, the net was at rest, and stays so.
         * A jet that goes over changes its legs, so that needs no look of its own.
         */
        boolean passTick() {
            time++;
            boolean changed = fillPushes();
            for (int v = 0; v < valves; v++) {
                if (turnValve(v)) {
                    changed = true;
                }
            }
            for (int d = 0; d < ducts; d++) {
                if (moveAir(d)) {
                    changed = true;
                }
            }
            return changed;
        }

        private boolean fillPushes() {
            Arrays.fill(arriving, 0);
            for (int d = 0; d < ducts; d++) {
                int target = targets[d];
                arriving[target] = Math.max(arriving[target], nextOutOf(d));
            }
            boolean changed = false;
            for (int end = 0; end < 2 * valves; end++) {
                if (pushes[end] != arriving[end]) {
                    pushes[end] = arriving[end];
                    changed = true;
                }
            }
            return changed;
        }

        private boolean turnValve(int v) {
            int first = pushes[endOf(v, 0)];
            int second = pushes[endOf(v, 1)];
            int lesser = Math.min(first, second);
            int greater = Math.max(first, second);
            switch (kinds[v]) {
                case KEY:
                    return supplyLeg(v, 1 - sides[v]);
                case JET:
                    return supplyLeg(v, works(endOf(v, 0)) || works(endOf(v, 1)) ? 1 : 0);
                case WALL_JET:
                    return supplyLeg(v, turnWallJet(v));
                case MEETING:
                    return putLegs(endOf(v, 0), lesser, lesser == 0 ? greater : 0);
                default:
                    return supplyLeg(v, greater >= BOOSTED_FROM ? 0 : 1);
            }
        }

        /** Answers the leg to which the jet sticks then. */
        private int turnWallJet(int v) {
            boolean first = works(endOf(v, 0));
            boolean second = works(endOf(v, 1));
            if (first != second && sides[v] != (first ? 1 : 0)) {
                sides[v] = 1 - sides[v];
                crossings++;
            }
            return sides[v];
        }

        private boolean supplyLeg(int v, int leg) {
            int end = endOf(v, 0);
            return leg == 0 ? putLegs(end, supplies[v], 0) : putLegs(end, 0, supplies[v]);
        }

        private boolean putLegs(int end, int first, int second) {
            boolean changed = legs[end] != first || legs[end + 1] != second;
            legs[end] = first;
            legs[end + 1] = second;
            return changed;
        }

        private boolean moveAir(int d) {
            int next = d * MOST_LENGTH;
            int last = next + lengths[d] - 1;
            boolean changed = false;
            for (int place = next; place <= last; place++) {
                int pressure = place < last ? air[place + 1] : legs[sources[d]];
                if (air[place] != pressure) {
                    air[place] = pressure;
                    changed = true;
                }
            }
            return changed;
        }

        /** Uses this net up: it lets the ticks go by in it. A net at rest has no beat any more. */
        int findBeat(int v) {
            for (int tick = 0; tick < TICKS_AHEAD_OF_BEAT; tick++) {
                if (!passTick()) {
                    return NONE;
                }
            }
            int end = endOf(v, 0);
            int rise = NONE;
            for (int tick = 0; tick < TICKS_OF_BEAT; tick++) {
                int ahead = legs[end];
                passTick();
                if (ahead == 0 && legs[end] > 0) {
                    if (rise != NONE) {
                        return tick - rise;
                    }
                    rise = tick;
                }
            }
            return NONE;
        }
    }

    /** The actions: what is wrong with one, and doing it unless something is. */
    private static final class Action {
        static int faultOfValve(Net net, int kind, int supply) {
            if (!isIn(kind, KEY, BOOSTER) || !isIn(supply, LEAST_SUPPLY, MOST_PRESSURE)) {
                return OUT_OF_RANGE;
            }
            return net.valves < MOST_VALVES ? FINE : NOT_NOW;
        }

        static boolean tryValve(Net net, int kind, int supply) {
            if (faultOfValve(net, kind, supply) != FINE) {
                return false;
            }
            net.addValve(kind, supply);
            return true;
        }

        static int faultOfDuct(Net net, int from, int leg, int to, int push, int length) {
            if (!net.hasEnd(from, leg) || !net.hasEnd(to, push)) {
                return NO_SUCH_PART;
            }
            if (!isIn(length, 1, MOST_LENGTH)) {
                return OUT_OF_RANGE;
            }
            return net.ducts < MOST_DUCTS ? FINE : NOT_NOW;
        }

        static boolean tryDuct(Net net, int from, int leg, int to, int push, int length) {
            if (faultOfDuct(net, from, leg, to, push, length) != FINE) {
                return false;
            }
            net.addDuct(endOf(from, leg), endOf(to, push), length);
            return true;
        }

        static int faultOfRemove(Net net, int d) {
            return net.hasDuct(d) ? FINE : NO_SUCH_PART;
        }

        static boolean tryRemove(Net net, int d) {
            if (faultOfRemove(net, d) != FINE) {
                return false;
            }
            net.removeDuct(d);
            return true;
        }

        static int faultOfPress(Net net, int v) {
            if (!net.hasValve(v)) {
                return NO_SUCH_PART;
            }
            return net.kinds[v] == KEY ? FINE : NOT_NOW;
        }

        static boolean tryPress(Net net, int v, boolean pressed) {
            if (faultOfPress(net, v) != FINE) {
                return false;
            }
            net.sides[v] = pressed ? 1 : 0;
            return true;
        }

        static int faultOfLeak(Net net, int d, int leak) {
            if (!net.hasDuct(d)) {
                return NO_SUCH_PART;
            }
            return isIn(leak, 0, MOST_LEAK) ? FINE : OUT_OF_RANGE;
        }

        static boolean tryLeak(Net net, int d, int leak) {
            if (faultOfLeak(net, d, leak) != FINE) {
                return false;
            }
            net.leaks[d] = leak;
            return true;
        }

        static int faultOfFeed(Net net, int v, int supply) {
            if (!net.hasValve(v)) {
                return NO_SUCH_PART;
            }
            return isIn(supply, LEAST_SUPPLY, MOST_PRESSURE) ? FINE : OUT_OF_RANGE;
        }

        static boolean tryFeed(Net net, int v, int supply) {
            if (faultOfFeed(net, v, supply) != FINE) {
                return false;
            }
            net.supplies[v] = supply;
            return true;
        }

        static int faultOfSet(int what, int value) {
            boolean fine = what == LOSS && isIn(value, 0, MOST_LOSS)
                    || what == STRENGTH && isIn(value, LEAST_STRENGTH, MOST_STRENGTH);
            return fine ? FINE : OUT_OF_RANGE;
        }

        static boolean trySet(Net net, int what, int value) {
            if (faultOfSet(what, value) != FINE) {
                return false;
            }
            net.settings[what] = value;
            return true;
        }

        static int faultOfTicks(int n) {
            return isIn(n, 1, MOST_TICKS) ? FINE : OUT_OF_RANGE;
        }

        static boolean tryTicks(Net net, int n) {
            if (faultOfTicks(n) != FINE) {
                return false;
            }
            for (int tick = 0; tick < n; tick++) {
                net.passTick();
            }
            return true;
        }
    }

    /** The states that undo goes back to; a row that begins again at its start when it is full. */
    private static final class Memory {
        int count;
        private int oldest;
        private final Net[] states = new Net[MOST_REMEMBERED];

        Memory() {
            for (int i = 0; i < MOST_REMEMBERED; i++) {
                states[i] = new Net();
            }
        }

        void keep(Net net) {
            states[(oldest + count) % MOST_REMEMBERED].copyFrom(net);
            if (count < MOST_REMEMBERED) {
                count++;
            } else {
                oldest = (oldest + 1) % MOST_REMEMBERED;
            }
        }

        void takeBack(Net net) {
            count--;
            net.copyFrom(states[(oldest + count) % MOST_REMEMBERED]);
        }

        void forgetAll() {
            count = 0;
            oldest = 0;
        }
    }

    /** The text buffer, and a reader that goes through it from left to right. */
    private static final class Text {
        private static final int MOST_NUMBERS = 5;
        /** For each number of a command its least and its most; one above 9 has two digits. */
        private static final int[] VALVE_NUMBERS = {0, 4, 10, 99};
        private static final int[] DUCT_NUMBERS = {0, 9, 0, 1, 0, 9, 0, 1, 1, 6};
        private static final int[] KEY_NUMBERS = {0, 9};
        private static final int[] LEAK_NUMBERS = {0, 15, 0, 30};
        private static final int[] TICK_NUMBERS = {1, 99};
        private static final int[] NO_NUMBERS = {};

        final char[] signs = new char[MOST_SIGNS];
        int length;
        private int at;
        private int letter;
        private final int[] numbers = new int[MOST_NUMBERS];

        int firstError() {
            if (!readStart()) {
                return at;
            }
            for (int i = 0; i < MOST_SIGNS && hasMore(); i++) {
                if (!readCommand()) {
                    return at;
                }
            }
            return NONE;
        }

        boolean readStart() {
            at = 0;
            if (length == 0 || signs[0] != 'W') {
                return false;
            }
            at = 1;
            return true;
        }

        boolean hasMore() {
            return at < length;
        }

        /** Stops at the first sign that is not allowed, or at the end if the text ends too soon. */
        boolean readCommand() {
            if (!hasMore()) {
                return false;
            }
            letter = signs[at];
            int[] bounds = boundsOf(letter);
            if (bounds.length == 0) {
                return false;
            }
            at++;
            for (int i = 0; 2 * i + 1 < bounds.length && i < MOST_NUMBERS; i++) {
                if (!readNumber(i, bounds[2 * i], bounds[2 * i + 1])) {
                    return false;
                }
            }
            return true;
        }

        private static int[] boundsOf(int letter) {
            switch (letter) {
                case 'v':
                    return VALVE_NUMBERS;
                case 'd':
                    return DUCT_NUMBERS;
                case 'k':
                case 'r':
                    return KEY_NUMBERS;
                case 'l':
                    return LEAK_NUMBERS;
                case 't':
                    return TICK_NUMBERS;
                default:
                    return NO_NUMBERS;
            }
        }

        /** The numbers that begin with the digits so far are those from lowest on, as many as the span. */
        private boolean readNumber(int i, int least, int most) {
            int digits = most > 9 ? 2 : 1;
            int number = 0;
            for (int k = 1; k <= digits; k++) {
                if (!hasMore() || !isIn(signs[at], '0', '9')) {
                    return false;
                }
                number = 10 * number + signs[at] - '0';
                int span = k < digits ? 10 : 1;
                int lowest = number * span;
                if (lowest > most || lowest + span - 1 < least) {
                    return false;
                }
                at++;
            }
            numbers[i] = number;
            return true;
        }

        /** Does the command that was read last, unless its call would throw an exception. */
        boolean doCommand(Net net) {
            switch (letter) {
                case 'v':
                    return Action.tryValve(net, numbers[0], numbers[1]);
                case 'd':
                    return Action.tryDuct(net, numbers[0], numbers[1], numbers[2], numbers[3], numbers[4]);
                case 'k':
                    return Action.tryPress(net, numbers[0], true);
                case 'r':
                    return Action.tryPress(net, numbers[0], false);
                case 'l':
                    return Action.tryLeak(net, numbers[0], numbers[1]);
                default:
                    return Action.tryTicks(net, numbers[0]);
            }
        }
    }

    /** Commands and turns that come as numbers. */
    private static final class Script {
        /** The probe is a net to spare: whether a net is at rest is seen by a further tick. */
        static boolean succeeds(Net net, Net probe, int group) {
            int second = group / 10000 % 10;
            int third = group / 1000 % 10;
            int fourth = group / 100 % 10;
            int fifth = group / 10 % 10;
            int last = group % 10;
            int pair = group % 100;
            switch (group / 100000) {
                case 1:
                    return second == 0 && third == 0 && fourth == 0 && Action.tryTicks(net, pair);
                case 2:
                    return third <= 1 && fourth == 0 && pair == 0 && Action.tryPress(net, second, third == 1);
                case 3:
                    return fourth == 0 && Action.tryLeak(net, 10 * second + third, pair);
                case 4:
                    return third == 0 && fourth == 0 && Action.tryFeed(net, second, pair);
                case 5:
                    return third == 0 && fourth == 0 && Action.trySet(net, second, pair);
                case 6:
                    return fourth == 0 && net.hasEnd(second, third) && net.legs[endOf(second, third)] >= pair;
                case 7:
                    return fourth == 0 && fifth == 0 && net.hasEnd(second, third)
                            && (net.works(endOf(second, third)) ? 1 : 0) == last;
                case 8:
                    return group == 800000 && isAtRest(net, probe);
                case 9:
                    return third == 0 && fourth == 0 && fifth == 0
                            && net.hasValve(second) && net.sides[second] == last;
                default:
                    return false;
            }
        }

        private static boolean isAtRest(Net net, Net probe) {
            probe.copyFrom(net);
            return !probe.passTick();
        }

        static void doTurn(Net net, int r) {
            int q = r / 8;
            switch (r % 8) {
                case 0:
                    Action.tryValve(net, q % 5, 10 + q / 8 % 90);
                    break;
                case 1:
                case 2:
                    Action.tryDuct(net, q % 10, q / 16 % 2, q / 32 % 10, q / 512 % 2, 1 + q / 1024 % 6);
                    break;
                case 3:
                    Action.tryPress(net, q % 10, q / 16 % 2 == 1);
                    break;
                case 4:
                    if (q / 512 % 2 == 0) {
                        Action.tryLeak(net, q % 16, q / 16 % 31);
                    } else {
                        Action.tryRemove(net, q % 16);
                    }
                    break;
                case 5:
                    Action.tryFeed(net, q % 10, 10 + q / 16 % 90);
                    break;
                default:
                    Action.tryTicks(net, 1 + q % 20);
                    break;
            }
        }
    }
}
