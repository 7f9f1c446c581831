import java.util.ArrayDeque;
import java.util.ArrayList;
import java.util.Deque;
import java.util.List;
import java.util.regex.Matcher;
import java.util.regex.Pattern;

/**
 * The document once more, in another way: every duct keeps a log of all that ever entered it, every
 * state is copied whole, texts are matched by a pattern. Slow, and only for comparing.
 */
final class Model {
    static final int NONE = -1;

    private static final Pattern NET = Pattern.compile("W(?:v[0-4][1-9][0-9]|d[0-9][01][0-9][01][1-6]|[kr][0-9]"
            + "|l(?:0[0-9]|1[0-5])(?:[0-2][0-9]|30)|t(?:0[1-9]|[1-9][0-9]))*");
    private static final Pattern COMMAND = Pattern.compile("[a-z][0-9]+");

    private static final class Valve {
        int kind;
        int supply;
        boolean pressed;
        int wall;
        int[] leg = new int[2];
        int[] push = new int[2];

        Valve copy() {
            Valve other = new Valve();
            other.kind = kind;
            other.supply = supply;
            other.pressed = pressed;
            other.wall = wall;
            other.leg = leg.clone();
            other.push = push.clone();
            return other;
        }
    }

    private static final class Duct {
        int from;
        int leg;
        int to;
        int push;
        int length;
        int leak;
        List<Integer> entered = new ArrayList<>();

        Duct copy() {
            Duct other = new Duct();
            other.from = from;
            other.leg = leg;
            other.to = to;
            other.push = push;
            other.length = length;
            other.leak = leak;
            other.entered = new ArrayList<>(entered);
            return other;
        }

        /** What entered so many ticks ago. */
        int enteredAgo(int ticks) {
            return entered.size() >= ticks ? entered.get(entered.size() - ticks) : 0;
        }
    }

    private static final class State {
        List<Valve> valves = new ArrayList<>();
        List<Duct> ducts = new ArrayList<>();
        int time;
        int over;
        int loss = 2;
        int strength = 30;

        State copy() {
            State other = new State();
            for (Valve valve : valves) {
                other.valves.add(valve.copy());
            }
            for (Duct duct : ducts) {
                other.ducts.add(duct.copy());
            }
            other.time = time;
            other.over = over;
            other.loss = loss;
            other.strength = strength;
            return other;
        }

        int out(Duct duct) {
            return Math.max(duct.enteredAgo(duct.length) - duct.length * loss - duct.leak, 0);
        }

        boolean works(Valve valve, int pressure) {
            return pressure != 0 && 100 * pressure >= valve.supply * strength;
        }

        void tick() {
            time++;
            for (int v = 0; v < valves.size(); v++) {
                for (int p = 0; p < 2; p++) {
                    int greatest = 0;
                    for (Duct duct : ducts) {
                        if (duct.to == v && duct.push == p) {
                            greatest = Math.max(greatest, out(duct));
                        }
                    }
                    valves.get(v).push[p] = greatest;
                }
            }
            for (Valve valve : valves) {
                turn(valve);
            }
            for (Duct duct : ducts) {
                duct.entered.add(valves.get(duct.from).leg[duct.leg]);
            }
        }

        private void turn(Valve valve) {
            int a = valve.push[0];
            int b = valve.push[1];
            boolean aWorks = works(valve, a);
            boolean bWorks = works(valve, b);
            int leg;
            if (valve.kind == 0) {
                leg = valve.pressed ? 0 : 1;
            } else if (valve.kind == 1) {
                leg = aWorks || bWorks ? 1 : 0;
            } else if (valve.kind == 2) {
                int before = valve.wall;
                if (aWorks && !bWorks) {
                    valve.wall = 1;
                }
                if (bWorks && !aWorks) {
                    valve.wall = 0;
                }
                over += before == valve.wall ? 0 : 1;
                leg = valve.wall;
            } else if (valve.kind == 4) {
                leg = a >= 5 || b >= 5 ? 0 : 1;
            } else {
                int lesser = a < b ? a : b;
                valve.leg[0] = lesser;
                valve.leg[1] = lesser == 0 ? a + b : 0;
                return;
            }
            valve.leg[leg] = valve.supply;
            valve.leg[1 - leg] = 0;
        }

        /** All that a rest asks to stay the same, place by place. */
        String picture() {
            StringBuilder picture = new StringBuilder();
            for (Valve valve : valves) {
                picture.append(valve.leg[0]).append(' ').append(valve.leg[1]).append(' ');
                picture.append(valve.push[0]).append(' ').append(valve.push[1]).append(' ');
                picture.append(valve.wall).append(';');
            }
            for (Duct duct : ducts) {
                for (int ago = duct.length; ago >= 1; ago--) {
                    picture.append(duct.enteredAgo(ago)).append(' ');
                }
                picture.append(';');
            }
            return picture.toString();
        }

        boolean rests() {
            State next = copy();
            next.tick();
            return next.picture().equals(picture());
        }

        int beat(int v) {
            State net = copy();
            for (int i = 0; i < 100; i++) {
                net.tick();
            }
            List<Integer> rises = new ArrayList<>();
            for (int i = 1; i <= 200; i++) {
                int ahead = net.valves.get(v).leg[0];
                net.tick();
                if (ahead == 0 && net.valves.get(v).leg[0] > 0) {
                    rises.add(i);
                }
            }
            return rises.size() < 2 ? NONE : rises.get(1) - rises.get(0);
        }

        int enough(Duct duct) {
            for (int entering = 0; entering <= 99; entering++) {
                int out = Math.max(0, entering - duct.length * loss - duct.leak);
                if (works(valves.get(duct.to), out)) {
                    return entering;
                }
            }
            return NONE;
        }

        int active() {
            int count = 0;
            for (Valve valve : valves) {
                count += (valve.leg[0] > 0 ? 1 : 0) + (valve.leg[1] > 0 ? 1 : 0);
            }
            return count;
        }

        int all() {
            int sum = 0;
            for (Valve valve : valves) {
                sum += valve.leg[0] + valve.leg[1];
            }
            return sum;
        }
    }

    private String text = "";
    private State state = new State();
    private final Deque<State> remembered = new ArrayDeque<>();
    private State[] slots = new State[2];

    private static void index(boolean fine) {
        if (!fine) {
            throw new IndexOutOfBoundsException();
        }
    }

    private static void argument(boolean fine) {
        if (!fine) {
            throw new IllegalArgumentException();
        }
    }

    private static void state(boolean fine) {
        if (!fine) {
            throw new IllegalStateException();
        }
    }

    private void valveIs(int v) {
        index(0 <= v && v < state.valves.size());
    }

    private void ductIs(int d) {
        index(0 <= d && d < state.ducts.size());
    }

    private static void sideIs(int side) {
        index(side == 0 || side == 1);
    }

    private void remember() {
        remembered.addLast(state.copy());
        if (remembered.size() > 14) {
            remembered.removeFirst();
        }
    }

    int append(int c) {
        argument(0 <= c && c <= 255);
        state(text.length() < 120);
        text += (char) c;
        return text.length();
    }

    int clearText() {
        int length = text.length();
        text = "";
        return length;
    }

    int errorPosition() {
        for (int end = 1; end <= text.length(); end++) {
            Matcher matcher = NET.matcher(text.substring(0, end));
            if (!matcher.matches() && !matcher.hitEnd()) {
                return end - 1;
            }
        }
        return NET.matcher(text).matches() ? NONE : text.length();
    }

    int load() {
        state(errorPosition() == NONE);
        state = new State();
        slots = new State[2];
        int leftOut = 0;
        Matcher matcher = COMMAND.matcher(text.substring(1));
        while (matcher.find()) {
            try {
                doCommand(matcher.group());
            } catch (RuntimeException e) {
                leftOut++;
            }
        }
        remembered.clear();
        return leftOut;
    }

    private void doCommand(String command) {
        int[] digit = command.substring(1).chars().map(c -> c - '0').toArray();
        switch (command.charAt(0)) {
            case 'v' -> valve(digit[0], 10 * digit[1] + digit[2]);
            case 'd' -> duct(digit[0], digit[1], digit[2], digit[3], digit[4]);
            case 'k' -> press(digit[0], true);
            case 'r' -> press(digit[0], false);
            case 'l' -> leak(10 * digit[0] + digit[1], 10 * digit[2] + digit[3]);
            default -> ticks(10 * digit[0] + digit[1]);
        }
    }

    int about(int what) {
        argument(0 <= what && what <= 6);
        int keys = 0;
        for (int v = 0; v < state.valves.size(); v++) {
            keys += state.valves.get(v).pressed ? 1 << v : 0;
        }
        int[] answers = {state.valves.size(), state.ducts.size(), state.time, state.active(), state.all(), keys,
            state.over};
        return answers[what];
    }

    int valveOf(int v, int what) {
        valveIs(v);
        argument(0 <= what && what <= 4);
        Valve valve = state.valves.get(v);
        int third = valve.kind == 0 ? (valve.pressed ? 1 : 0) : valve.kind == 2 ? valve.wall : 0;
        int from = (int) state.ducts.stream().filter(duct -> duct.from == v).count();
        int to = (int) state.ducts.stream().filter(duct -> duct.to == v).count();
        return new int[] {valve.kind, valve.supply, third, from, to}[what];
    }

    int leg(int v, int leg) {
        valveIs(v);
        sideIs(leg);
        return state.valves.get(v).leg[leg];
    }

    int push(int v, int push, int what) {
        valveIs(v);
        sideIs(push);
        argument(what == 0 || what == 1);
        Valve valve = state.valves.get(v);
        int pressure = valve.push[push];
        return what == 0 ? pressure : state.works(valve, pressure) ? 1 : 0;
    }

    int ductOf(int d, int what) {
        ductIs(d);
        argument(0 <= what && what <= 7);
        Duct duct = state.ducts.get(d);
        return new int[] {duct.from, duct.leg, duct.to, duct.push, duct.length, duct.leak, state.out(duct),
            state.enough(duct)}[what];
    }

    int setting(int what) {
        argument(what == 0 || what == 1);
        return what == 0 ? state.loss : state.strength;
    }

    int valve(int kind, int supply) {
        argument(0 <= kind && kind <= 4 && 10 <= supply && supply <= 99);
        state(state.valves.size() < 10);
        remember();
        Valve valve = new Valve();
        valve.kind = kind;
        valve.supply = supply;
        state.valves.add(valve);
        return state.valves.size() - 1;
    }

    int duct(int from, int leg, int to, int push, int length) {
        valveIs(from);
        sideIs(leg);
        valveIs(to);
        sideIs(push);
        argument(1 <= length && length <= 6);
        state(state.ducts.size() < 16);
        remember();
        Duct duct = new Duct();
        duct.from = from;
        duct.leg = leg;
        duct.to = to;
        duct.push = push;
        duct.length = length;
        state.ducts.add(duct);
        return state.ducts.size() - 1;
    }

    int remove(int d) {
        ductIs(d);
        remember();
        state.ducts.remove(d);
        return state.ducts.size();
    }

    int press(int v, boolean pressed) {
        valveIs(v);
        state(state.valves.get(v).kind == 0);
        remember();
        int answer = state.valves.get(v).pressed == pressed ? 0 : 1;
        state.valves.get(v).pressed = pressed;
        return answer;
    }

    int leak(int d, int v) {
        ductIs(d);
        argument(0 <= v && v <= 30);
        remember();
        int previous = state.ducts.get(d).leak;
        state.ducts.get(d).leak = v;
        return previous;
    }

    int feed(int v, int supply) {
        valveIs(v);
        argument(10 <= supply && supply <= 99);
        remember();
        int previous = state.valves.get(v).supply;
        state.valves.get(v).supply = supply;
        return previous;
    }

    int set(int what, int v) {
        argument(what == 0 && 0 <= v && v <= 9 || what == 1 && 5 <= v && v <= 90);
        remember();
        int previous = setting(what);
        if (what == 0) {
            state.loss = v;
        } else {
            state.strength = v;
        }
        return previous;
    }

    int ticks(int n) {
        argument(1 <= n && n <= 99);
        remember();
        State before = state.copy();
        for (int i = 0; i < n; i++) {
            state.tick();
        }
        int count = 0;
        for (int v = 0; v < state.valves.size(); v++) {
            for (int leg = 0; leg < 2; leg++) {
                count += before.valves.get(v).leg[leg] != leg(v, leg) ? 1 : 0;
            }
        }
        return count;
    }

    int undo() {
        state(!remembered.isEmpty());
        state = remembered.removeLast();
        return remembered.size();
    }

    int restIn() {
        State net = state.copy();
        for (int i = 0; i <= 300; i++) {
            if (net.rests()) {
                return i;
            }
            net.tick();
        }
        return NONE;
    }

    int beat(int v) {
        valveIs(v);
        return state.beat(v);
    }

    int rule(int a, int b, int v) {
        valveIs(a);
        valveIs(b);
        valveIs(v);
        argument(a != b && state.valves.get(a).kind == 0 && state.valves.get(b).kind == 0);
        boolean[][] pressed = {{false, false}, {true, false}, {false, true}, {true, true}};
        int set = 0;
        boolean alwaysRests = true;
        for (int bit = 0; bit < 4; bit++) {
            State net = state.copy();
            net.valves.get(a).pressed = pressed[bit][0];
            net.valves.get(b).pressed = pressed[bit][1];
            for (int i = 0; i < 60; i++) {
                net.tick();
            }
            alwaysRests &= net.rests();
            set += net.valves.get(v).leg[0] > 0 ? 1 << bit : 0;
        }
        return alwaysRests ? set : NONE;
    }

    private int beatWithLeak(int d, int leak, int v) {
        State net = state.copy();
        net.ducts.get(d).leak = leak;
        return net.beat(v);
    }

    int ifLeak(int d, int leak, int v) {
        ductIs(d);
        valveIs(v);
        argument(0 <= leak && leak <= 30);
        return beatWithLeak(d, leak, v);
    }

    int suspect(int v, int beat) {
        valveIs(v);
        argument(beat == NONE || 1 <= beat && beat <= 200);
        for (int d = 0; d < state.ducts.size(); d++) {
            if (state.ducts.get(d).leak != 0) {
                continue;
            }
            for (int leak = 1; leak <= 30; leak++) {
                if (beatWithLeak(d, leak, v) == beat) {
                    return d;
                }
            }
        }
        return NONE;
    }

    int tightest() {
        int best = NONE;
        int bestSpare = Integer.MAX_VALUE;
        for (int d = 0; d < state.ducts.size(); d++) {
            Duct duct = state.ducts.get(d);
            int pressure = state.valves.get(duct.from).leg[duct.leg];
            int enough = state.enough(duct);
            int spare = enough == NONE ? -99 : pressure - enough;
            if (pressure > 0 && spare < bestSpare) {
                best = d;
                bestSpare = spare;
            }
        }
        return best;
    }

    /** Runs what is given on a copy: another model with the same state. */
    private Model another() {
        Model other = new Model();
        other.state = state.copy();
        return other;
    }

    int runScript(int n, long script) {
        argument(1 <= n && n <= 3 && script >= 0);
        String digits = Long.toString(script);
        argument(digits.length() <= 6 * n);
        digits = "0".repeat(6 * n - digits.length()) + digits;
        Model copy = another();
        for (int i = 0; i < n; i++) {
            boolean succeeds;
            try {
                succeeds = copy.succeeds(digits.substring(6 * i, 6 * i + 6));
            } catch (RuntimeException e) {
                succeeds = false;
            }
            if (!succeeds) {
                return i;
            }
        }
        return NONE;
    }

    private boolean succeeds(String group) {
        int pair = Integer.parseInt(group.substring(4));
        int last = group.charAt(5) - '0';
        int second = group.charAt(1) - '0';
        int third = group.charAt(2) - '0';
        if (group.matches("1000..")) {
            ticks(pair);
        } else if (group.matches("2.[01]000")) {
            press(second, third == 1);
        } else if (group.matches("3..0..")) {
            leak(Integer.parseInt(group.substring(1, 3)), pair);
        } else if (group.matches("4.00..")) {
            feed(second, pair);
        } else if (group.matches("5.00..")) {
            set(second, pair);
        } else if (group.matches("6..0..")) {
            return leg(second, third) >= pair;
        } else if (group.matches("7..00.")) {
            return push(second, third, 1) == last;
        } else if (group.matches("800000")) {
            return state.rests();
        } else if (group.matches("9.000.")) {
            return valveOf(second, 2) == last;
        } else {
            return false;
        }
        return true;
    }

    int simulate(long seed, int m) {
        argument(1 <= m && m <= 60);
        Model copy = another();
        long x = seed;
        for (int i = 0; i < m; i++) {
            x = x * 6364136223846793005L + 1442695040888963407L;
            int r = (int) (x >>> 33);
            try {
                copy.turn(r % 8, r / 8);
            } catch (RuntimeException e) {
                continue;
            }
        }
        return 1000 * copy.state.active() + copy.state.all() % 1000;
    }

    private void turn(int kind, int q) {
        switch (kind) {
            case 0 -> valve(q % 5, 10 + q / 8 % 90);
            case 1, 2 -> duct(q % 10, q / 16 % 2, q / 32 % 10, q / 512 % 2, 1 + q / 1024 % 6);
            case 3 -> press(q % 10, q / 16 % 2 == 1);
            case 4 -> {
                if (q / 512 % 2 == 0) {
                    leak(q % 16, q / 16 % 31);
                } else {
                    remove(q % 16);
                }
            }
            case 5 -> feed(q % 10, 10 + q / 16 % 90);
            default -> ticks(1 + q % 20);
        }
    }

    int save(int slot) {
        index(slot == 0 || slot == 1);
        slots[slot] = state.copy();
        return state.time;
    }

    int restore(int slot) {
        index(slot == 0 || slot == 1);
        state(slots[slot] != null);
        state = slots[slot].copy();
        remembered.clear();
        return state.time;
    }
}
