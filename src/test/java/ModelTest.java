import java.util.ArrayDeque;
import java.util.ArrayList;
import java.util.Deque;
import java.util.List;
import java.util.Random;

/**
 * Drawn runs of calls, each answered by NightRounds and by a second telling of the document that shares nothing with it:
 * a tree of acts, Java's own exceptions for what befalls, and finally for the doors.
 */
public final class ModelTest {
    private static final int RUNS = 3000;
    private static final int CALLS = 512;

    public static void main(String[] args) {
        int wrong = 0;
        int[] seenEnds = new int[7];
        for (int run = 0; run < RUNS && wrong < 10; run++) {
            wrong += compare(new Random(run), run, seenEnds);
        }
        for (int end = 0; end < 7; end++) {
            if (seenEnds[end] < 500) {
                wrong++;
                System.out.println("the runs are too plain: only " + seenEnds[end] + " rounds ended " + end);
            }
        }
        System.out.println("ends seen: " + java.util.Arrays.toString(seenEnds));
        System.out.println(RUNS + " runs, " + wrong + " wrong");
        if (wrong != 0) System.exit(1);
    }

    private static int compare(Random random, int run, int[] seenEnds) {
        NightRounds real = new NightRounds();
        Model model = new Model();
        Deque<Integer> pending = new ArrayDeque<>();
        for (int call = 0; call < CALLS; call++) {
            int[] c = pending.isEmpty() ? drawCall(random, pending) : new int[] {4, pending.poll(), 0, 0};
            long got = onReal(real, c);
            long want = model.answer(c);
            if (got == want && (call % 8 == 7 || call == CALLS - 1)) {
                c = new int[] {21, 0, 0, 0};
                got = real.digest();
                want = model.digest();
            }
            if (got != want) {
                System.out.println("run " + run + " call " + call + ": " + NAMES[c[0]] + "(" + c[1] + ", " + c[2] + ", " + c[3]
                    + ") answered " + got + ", due is " + want + ", the text being '" + model.text + "'");
                return 1;
            }
            if (c[0] == 6 && got >= 0) seenEnds[(int) got]++;
        }
        return 0;
    }

    private static final String[] NAMES = {"sets", "of", "keys", "dusk", "type", "clear", "goes", "tries", "often", "was",
        "root", "diary", "open", "fewest", "were", "cures", "ends", "told", "draw", "back", "count", "digest"};

    private static int[] drawCall(Random r, Deque<Integer> pending) {
        int die = r.nextInt(100);
        if (die < 8) {
            String text = r.nextInt(5) == 0 ? drawNoise(r) : drawText(r);
            for (char ch : text.toCharArray()) pending.add((int) ch);
            return new int[] {r.nextInt(20) == 0 ? 3 : 5, 0, 0, 0};
        }
        if (die < 26) return new int[] {0, near(r, 7), near(r, 3), near(r, 9)};
        if (die < 31) return new int[] {2, r.nextInt(3) == 0 ? r.nextInt(20) - 2 : 2 * r.nextInt(8), 0, 0};
        if (die < 33) return new int[] {18, r.nextInt(10) == 0 ? -1 + 1000001 * r.nextInt(2) : r.nextInt(1000000), 0, 0};
        if (die < 46) return new int[] {6, 0, 0, 0};
        if (die < 51) return new int[] {8, near(r, 3), 0, 0};
        if (die < 54) return new int[] {19, 0, 0, 0};
        int kind = new int[] {1, 3, 7, 9, 10, 11, 12, 13, 14, 15, 16, 17, 20, 4}[r.nextInt(14)];
        if (kind == 4) return new int[] {4, r.nextInt(140) - 6, 0, 0};
        if (kind == 11) return new int[] {11, r.nextInt(30) - 3, 0, 0};
        return new int[] {kind, near(r, kind == 15 || kind == 17 ? 2 : 8), near(r, kind == 14 ? 4 : 7), 0};
    }

    /** 0 to most, and now and then a little outside. */
    private static int near(Random r, int most) {
        return r.nextInt(12) == 0 ? r.nextInt(most + 5) - 2 : r.nextInt(most + 1);
    }

    private static String drawNoise(Random r) {
        String signs = "0123456789{}()[]<>x:;/!lkwb+ a";
        StringBuilder b = new StringBuilder(drawText(r));
        for (int i = r.nextInt(3); i >= 0; i--) {
            int at = r.nextInt(b.length() + 1);
            if (r.nextBoolean() || at == b.length()) b.insert(at, signs.charAt(r.nextInt(signs.length())));
            else b.deleteCharAt(at);
        }
        return b.toString();
    }

    private static String drawText(Random r) {
        StringBuilder b = new StringBuilder();
        int die = r.nextInt(4);
        // In the hall most acts end a round at once, so that most rounds do all within a room.
        b.append(die == 0 ? "" : die == 1 ? "x9:" + r.nextInt(8) + "{l" : r.nextInt(8) + "{l");
        drawActs(r, b, 1 + r.nextInt(9), 1 + r.nextInt(6));
        b.append(die == 0 ? "" : die == 1 ? "};" : "}");
        return b.length() > 100 && r.nextInt(4) != 0 ? "" : b.toString();
    }

    private static void drawActs(Random r, StringBuilder b, int depth, int most) {
        for (int i = r.nextInt(most + 1); i > 0; i--) {
            if (r.nextInt(15) == 0) b.append(' ');
            int die = depth == 0 ? r.nextInt(10) : r.nextInt(24);
            if (die < 6) b.append("lkwb++".charAt(die));
            else if (die < 7) b.append('!').append(r.nextInt(10));
            else if (die < 10) b.append("lbk".charAt(die - 7));
            else if (die < 16) drawPart(r, b, depth, b.append(r.nextInt(8)), "{", "}");
            else if (die < 18) drawPart(r, b, depth, b.append('x').append(r.nextInt(10)), ":", ";");
            else if (die < 20) drawPart(r, b, depth, b, "<", ">");
            else drawTwoParts(r, b, depth, die < 22 ? "()" : "[]");
        }
    }

    private static void drawPart(Random r, StringBuilder b, int depth, StringBuilder begun, String first, String last) {
        begun.append(first);
        drawActs(r, b, depth - 1, 3);
        b.append(last);
    }

    private static void drawTwoParts(Random r, StringBuilder b, int depth, String brackets) {
        b.append(brackets.charAt(0));
        drawActs(r, b, depth - 1, 3);
        b.append('/');
        drawActs(r, b, depth - 1, 2);
        b.append(brackets.charAt(1));
    }

    private static long onReal(NightRounds x, int[] c) {
        switch (c[0]) {
            case 0: return x.sets(c[1], c[2], c[3]);
            case 1: return x.of(c[1], c[2]);
            case 2: return x.keys(c[1]);
            case 3: return x.dusk();
            case 4: return x.type(c[1]);
            case 5: return x.clear();
            case 6: return x.goes();
            case 7: return x.tries();
            case 8: return x.often(c[1]);
            case 9: return x.was(c[1]);
            case 10: return x.root();
            case 11: return x.diary(c[1]);
            case 12: return x.open();
            case 13: return x.fewest();
            case 14: return x.were(c[1], c[2]);
            case 15: return x.cures(c[1]);
            case 16: return x.ends(c[1]);
            case 17: return x.told(c[1]);
            case 18: return x.draw(c[1]);
            case 19: return x.back();
            case 20: return x.count(c[1]);
            default: return x.digest();
        }
    }

    // ---- the second telling

    private static class Quiet {
        int loud(int o) { return 0; }
    }

    private static class Creaky extends Quiet {
        @Override int loud(int o) { return super.loud(o) + 2; }
    }

    private static class Swollen extends Creaky {
        @Override int loud(int o) { return super.loud(o) + o % 3; }
    }

    private static class Oiled extends Creaky {
        @Override int loud(int o) { return o > 2 ? 0 : super.loud(o); }
    }

    private static class Groaning extends Swollen {
        @Override int loud(int o) { return 2 * super.loud(o); }
    }

    private static final Quiet[] DOORS = {new Quiet(), new Creaky(), new Swollen(), new Oiled(), new Groaning()};

    private static final class Room {
        int kind, lock, hook, sleep, openings;
        boolean awake, lamp;

        Room copy() {
            Room r = new Room();
            r.kind = kind;
            r.lock = lock;
            r.hook = hook;
            r.sleep = sleep;
            r.openings = openings;
            r.awake = awake;
            r.lamp = lamp;
            return r;
        }

        int loud() {
            return DOORS[kind].loud(openings);
        }

        boolean wakeBy(int noise) {
            if (sleep == 0 || awake || noise < sleep) return false;
            awake = true;
            return true;
        }
    }

    private static final class State {
        final Room[] rooms = new Room[8];
        int keys, sum;

        State() {
            for (int i = 0; i < 8; i++) rooms[i] = new Room();
        }

        State copy() {
            State s = new State();
            for (int i = 0; i < 8; i++) s.rooms[i] = rooms[i].copy();
            s.keys = keys;
            s.sum = sum;
            return s;
        }
    }

    private static class Befell extends RuntimeException {
        private static final long serialVersionUID = 1;
        final int end, room, number;

        Befell(int end, int room, int number, Befell behind) {
            super(null, behind, false, false);
            this.end = end;
            this.room = room;
            this.number = number;
        }

        int behind() {
            int n = 0;
            for (Throwable t = getCause(); t != null; t = t.getCause()) n++;
            return n;
        }

        Befell innermost() {
            Befell b = this;
            while (b.getCause() instanceof Befell next) b = next;
            return b;
        }
    }

    private static final class Fault extends RuntimeException {
        private static final long serialVersionUID = 1;
        final int place;

        Fault(int place) {
            super(null, null, false, false);
            this.place = place;
        }
    }

    private static final class Act {
        char sign;
        int figure;
        List<Act> first = new ArrayList<>(), second = new ArrayList<>();
    }

    private static final class Walk {
        final State state;
        final List<Integer> diary = new ArrayList<>();
        int ticks, open, mostOpen, times;
        Befell end;

        Walk(State state, List<Act> acts) {
            this.state = state;
            try {
                all(acts, -1);
            } catch (Befell b) {
                end = b;
            }
        }

        int ends() {
            return end == null ? 0 : end.end;
        }

        int[] was() {
            return new int[] {ends(), end == null ? -1 : end.innermost().room, end == null || end.end != 4 ? -1 : end.number,
                end == null ? 0 : end.behind(), ticks, state.sum, mostOpen, times};
        }

        void all(List<Act> acts, int room) {
            for (Act a : acts) one(a, room);
        }

        Befell befalls(int end, int room, int number, Befell behind) {
            times++;
            return new Befell(end, room, number, behind);
        }

        void one(Act a, int at) {
            if (ticks == 40) throw befalls(6, at, 0, null);
            ticks++;
            if (a.sign == '!') throw befalls(4, at, a.figure, null);
            if (a.sign == '+') state.sum += open;
            else if ("lkwb".indexOf(a.sign) >= 0) small(a.sign, at);
            else if (a.sign == '0') into(a, at);
            else if (a.sign == 'x') for (int i = 0; i < a.figure; i++) all(a.first, at);
            else guarded(a, at);
        }

        void guarded(Act a, int at) {
            try {
                all(a.first, at);
            } catch (Befell b) {
                if (a.sign == '<' && b.end != 6) throw befalls(5, at, 0, b);
                if (a.sign == '(' && b.end <= 3) all(a.second, at);
                else if (a.sign == '[' && (b.end == 4 || b.end == 5)) {
                    state.sum += b.end == 4 ? b.number : b.behind();
                    all(a.second, at);
                } else throw b;
            }
        }

        void into(Act a, int at) {
            Room r = state.rooms[a.figure];
            if (r.lock > 0 && (state.keys >> r.lock & 1) == 0) throw befalls(1, at, 0, null);
            if (r.openings < 9999) r.openings++;
            diary.add(10 + a.figure);
            mostOpen = Math.max(mostOpen, ++open);
            try {
                if (r.wakeBy(r.loud())) throw befalls(2, a.figure, 0, null);
                all(a.first, a.figure);
            } finally {
                open--;
                diary.add(20 + a.figure);
                r.wakeBy(r.loud() - 1);
            }
        }

        void small(char sign, int at) {
            if (at < 0) throw befalls(3, at, 0, null);
            Room r = state.rooms[at];
            if (sign == 'l') r.lamp = !r.lamp;
            if (sign == 'k' && r.hook > 0) {
                state.keys |= 1 << r.hook;
                r.hook = 0;
            }
            if (sign == 'w' && r.wakeBy(9)) throw befalls(2, at, 0, null);
            if (sign == 'b') {
                if (!r.lamp) throw befalls(3, at, 0, null);
                if (!r.awake) state.sum += r.sleep;
            }
        }
    }

    private static final class Model {
        State state = new State();
        final Deque<State> nights = new ArrayDeque<>();
        String text = "";
        Walk last = new Walk(new State(), List.of());
        int[] was = last.was();
        final int[] refused = new int[3];
        int place, acts, deepest, roomBits;

        long answer(int[] c) {
            if (isBad(c)) {
                refused[0]++;
                return c[0] == 11 ? -10 : -2;
            }
            try {
                return c[0] < 9 ? change(c) : ask(c);
            } catch (Fault f) {
                return -10 - f.place;
            }
        }

        boolean out(int v, int most) {
            return v < 0 || v > most;
        }

        boolean isBad(int[] c) {
            int a = c[1], b = c[2];
            switch (c[0]) {
                case 0: return out(a, 7) || out(b, 3) || out(c[3], b == 0 ? 4 : b == 3 ? 9 : 3);
                case 1: return out(a, 7) || out(b, 7);
                case 2: return out(a, 14) || a % 2 != 0;
                case 4: return out(a, 127);
                case 8: return out(a - 1, 2);
                case 9: return out(a, 7);
                case 11: return a < -1;
                case 14: return out(a, 7) || out(b, 4);
                case 15: case 17: return out(a, 2);
                case 16: return out(a, 6);
                case 18: return out(a, 999999);
                case 20: return out(a, 8);
                default: return false;
            }
        }

        void night() {
            nights.addLast(state.copy());
            if (nights.size() > 8) nights.removeFirst();
        }

        long change(int[] c) {
            int a = c[1];
            switch (c[0]) {
                case 0: return setTo(state.rooms[a], c[2], c[3]);
                case 1: return ofRoom(state.rooms[a], c[2]);
                case 2: {
                    night();
                    int old = state.keys;
                    state.keys = a;
                    return old;
                }
                case 3: {
                    night();
                    int n = awake();
                    for (Room r : state.rooms) r.awake = r.lamp = false;
                    return n;
                }
                case 4:
                    if (text.length() == 100) {
                        refused[2]++;
                        return -4;
                    }
                    text += (char) a;
                    return text.length();
                case 5: {
                    int n = text.length();
                    text = "";
                    return n;
                }
                case 6: {
                    List<Act> acts = parse();
                    night();
                    return keep(new Walk(state, acts));
                }
                case 7: return keep(new Walk(state.copy(), parse()));
                default: {
                    List<Act> acts = parse();
                    night();
                    for (int i = 0; i < a; i++) if (keep(new Walk(state, acts)) != 0) return i;
                    return a;
                }
            }
        }

        int keep(Walk w) {
            last = w;
            was = w.was();
            return was[0];
        }

        int setTo(Room r, int what, int v) {
            night();
            int old = ofRoom(r, what);
            if (what == 0) r.kind = v;
            if (what == 1) r.lock = v;
            if (what == 2) r.hook = v;
            if (what == 3) {
                r.sleep = v;
                r.awake = false;
            }
            return old;
        }

        int ofRoom(Room r, int what) {
            return new int[] {r.kind, r.lock, r.hook, r.sleep, r.awake ? 1 : 0, r.lamp ? 1 : 0, r.openings, r.loud()}[what];
        }

        int awake() {
            int n = 0;
            for (Room r : state.rooms) if (r.awake) n++;
            return n;
        }

        int lamps() {
            int n = 0;
            for (Room r : state.rooms) if (r.lamp) n++;
            return n;
        }

        int endWithKeys(int set, List<Act> acts) {
            State s = state.copy();
            s.keys = set;
            return new Walk(s, acts).ends();
        }

        long ask(int[] c) {
            int a = c[1];
            switch (c[0]) {
                case 9: return was[a];
                case 10: return was[0] == 5 ? last.end.innermost().end : -1;
                case 11: return a < 0 ? last.diary.size() : a < last.diary.size() ? last.diary.get(a) : -5;
                case 12: return last.open;
                case 13: return fewest(parse());
                case 14: {
                    List<Act> acts = parse();
                    State s = state.copy();
                    s.rooms[a].kind = c[2];
                    return new Walk(s, acts).ends();
                }
                case 15: return cures(a, parse());
                case 16: {
                    List<Act> acts = parse();
                    int n = 0;
                    for (int set = 0; set < 16; set += 2) if (endWithKeys(set, acts) == a) n++;
                    return n;
                }
                case 17:
                    parse();
                    return a == 0 ? acts : a == 1 ? deepest : roomBits;
                case 18: return draw(a);
                case 19:
                    if (nights.isEmpty()) {
                        refused[1]++;
                        return -3;
                    }
                    state = nights.removeLast();
                    return nights.size();
                case 20: return count(a);
                default: return digest();
            }
        }

        int fewest(List<Act> acts) {
            int best = -1;
            for (int set = 0; set < 16; set += 2) {
                boolean fewer = best < 0 || Integer.bitCount(set) < Integer.bitCount(best);
                if (fewer && endWithKeys(set, acts) == 0) best = set;
            }
            return best;
        }

        int cures(int sort, List<Act> acts) {
            int bits = 0;
            for (int i = 0; i < 8; i++) {
                State s = state.copy();
                if (sort == 0) s.rooms[i].kind = 0;
                if (sort == 1) s.rooms[i].sleep = 0;
                if (sort == 2) s.rooms[i].lock = 0;
                if (new Walk(s, acts).ends() == 0) bits += 1 << i;
            }
            return bits;
        }

        int draw(int seed) {
            night();
            state = new State();
            long x = seed;
            for (Room r : state.rooms) {
                x = x * 1103515245L + 12345L & 0x7fffffffL;
                r.kind = (int) (x >> 16) % 5;
                int lock = (int) (x >> 10) % 8, hook = (int) (x >> 12) % 8;
                r.lock = lock < 4 ? lock : 0;
                r.hook = hook < 4 ? hook : 0;
                r.sleep = (int) (x >> 14) % 10;
            }
            return 0;
        }

        int count(int what) {
            if (what < 3) return refused[what];
            return new int[] {text.length(), nights.size(), state.keys, state.sum, awake(), lamps()}[what - 3];
        }

        long digest() {
            List<Integer> vs = new ArrayList<>();
            for (int i = 0; i < 9; i++) vs.add(count(i));
            for (Room r : state.rooms) for (int i = 0; i < 7; i++) vs.add(ofRoom(r, i));
            for (int v : was) vs.add(v);
            vs.add(last.diary.size());
            vs.addAll(last.diary);
            long h = 1973;
            for (int v : vs) h = 31 * h + v;
            return h;
        }

        // ---- reading

        List<Act> parse() {
            place = acts = deepest = roomBits = 0;
            List<Act> all = parseActs(0);
            if (peek() != 0) throw new Fault(place);
            return all;
        }

        /** A byte 0 in the text is no end of it. */
        char peek() {
            while (place < text.length() && text.charAt(place) == ' ') place++;
            if (place == text.length()) return 0;
            return text.charAt(place) == 0 ? (char) 1 : text.charAt(place);
        }

        void take(char sign) {
            if (peek() != sign) throw new Fault(place);
            place++;
        }

        int takeFigure() {
            if (peek() < '0' || peek() > '9') throw new Fault(place);
            return text.charAt(place++) - '0';
        }

        List<Act> parseActs(int depth) {
            List<Act> list = new ArrayList<>();
            while (peek() != 0 && "lkwb+!01234567([<x".indexOf(peek()) >= 0) list.add(parseAct(depth));
            return list;
        }

        Act parseAct(int depth) {
            Act a = new Act();
            char sign = peek();
            if ("01234567([<x".indexOf(sign) >= 0) {
                if (depth == 8) throw new Fault(place);
                deepest = Math.max(deepest, depth + 1);
            }
            place++;
            acts++;
            a.sign = sign >= '0' && sign <= '7' ? '0' : sign;
            if (a.sign == '0') {
                a.figure = sign - '0';
                roomBits |= 1 << a.figure;
                take('{');
                a.first = parseActs(depth + 1);
                take('}');
            }
            if (sign == '!') a.figure = takeFigure();
            if (sign == 'x') {
                a.figure = takeFigure();
                take(':');
                a.first = parseActs(depth + 1);
                take(';');
            }
            if (sign == '<') {
                a.first = parseActs(depth + 1);
                take('>');
            }
            if (sign == '(' || sign == '[') {
                a.first = parseActs(depth + 1);
                take('/');
                a.second = parseActs(depth + 1);
                take(sign == '(' ? ')' : ']');
            }
            return a;
        }
    }
}
