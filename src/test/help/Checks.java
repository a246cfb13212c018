import java.util.Arrays;

/** What the project's tests share: they count what is wrong, and look at all that can be seen of an object. */
class Checks {
    static final int KIND = 0, LOCK = 1, HOOK = 2, SLEEP = 3, AWAKE = 4, LAMP = 5, OPENINGS = 6, LOUD = 7;

    /** Where in seen() a room's numbers, the answers of count(), was(), and of told() begin. */
    static final int ROOMS = 0, COUNTS = 64, WAS = 73, ROOT = 81, OPEN = 82, TOLD = 83, DIARY = 86;
    static final int BADS = COUNTS, NOES = COUNTS + 1, FULLS = COUNTS + 2, NIGHTS = COUNTS + 4;

    private static int wrong = 0;
    private static int checks = 0;

    interface Maker {
        NightRounds make();
    }

    interface Call {
        long on(NightRounds x);
    }

    static void end() {
        System.out.println(checks + " checks, " + wrong + " wrong");
        if (wrong != 0) System.exit(1);
    }

    static void due(String what, long got, long want) {
        checks++;
        if (got != want) {
            wrong++;
            System.out.println(what + " answered " + got + ", due is " + want);
        }
    }

    static void dueRow(String what, int[] got, int... want) {
        checks++;
        if (!Arrays.equals(got, want)) {
            wrong++;
            System.out.println(what + " is " + Arrays.toString(got) + ", due is " + Arrays.toString(want));
        }
    }

    static void text(NightRounds x, String text) {
        x.clear();
        for (int i = 0; i < text.length(); i++) x.type(text.charAt(i));
    }

    static NightRounds with(String text) {
        NightRounds x = new NightRounds();
        text(x, text);
        return x;
    }

    static int[] was(NightRounds x) {
        int[] row = new int[8];
        for (int i = 0; i < 8; i++) row[i] = x.was(i);
        return row;
    }

    static int[] diary(NightRounds x) {
        int[] row = new int[x.diary(-1)];
        for (int i = 0; i < row.length; i++) row[i] = x.diary(i);
        return row;
    }

    static int[] room(NightRounds x, int room) {
        int[] row = new int[8];
        for (int i = 0; i < 8; i++) row[i] = x.of(room, i);
        return row;
    }

    static long digestOf(NightRounds x) {
        long h = 1973;
        for (int i = 0; i < 9; i++) h = 31 * h + x.count(i);
        for (int room = 0; room < 8; room++) for (int i = 0; i < 7; i++) h = 31 * h + x.of(room, i);
        for (int i = 0; i < 8; i++) h = 31 * h + x.was(i);
        int n = x.diary(-1);
        h = 31 * h + n;
        for (int i = 0; i < n; i++) h = 31 * h + x.diary(i);
        return h;
    }

    /** Where of(room, what) stands in seen(). */
    static int cell(int room, int what) {
        return ROOMS + room * 8 + what;
    }

    static int[] seen(NightRounds x) {
        int entries = x.diary(-1);
        int[] row = new int[DIARY + 1 + entries];
        for (int room = 0; room < 8; room++) for (int i = 0; i < 8; i++) row[cell(room, i)] = x.of(room, i);
        for (int i = 0; i < 9; i++) row[COUNTS + i] = x.count(i);
        for (int i = 0; i < 8; i++) row[WAS + i] = x.was(i);
        row[ROOT] = x.root();
        row[OPEN] = x.open();
        for (int i = 0; i < 3; i++) row[TOLD + i] = x.told(i);
        row[DIARY] = entries;
        for (int i = 0; i < entries; i++) row[DIARY + 1 + i] = x.diary(i);
        return row;
    }

    /** The places at which two looks are not alike. */
    static int[] unlike(int[] a, int[] b) {
        int[] places = new int[Math.max(a.length, b.length)];
        int found = 0;
        for (int i = 0; i < places.length; i++) {
            if (i >= a.length || i >= b.length || a[i] != b[i]) places[found++] = i;
        }
        return Arrays.copyOf(places, found);
    }

    /**
     * The call answers so, and of all that can be seen only these places are another then than without it: at once, each
     * night further back, and behind one round more (which tells that the text's bytes stayed, too).
     */
    static void changesOnly(String what, Maker maker, Call call, long answer, int... places) {
        int nights = maker.make().count(4);
        for (int back = 0; back <= nights; back++) {
            NightRounds x = maker.make();
            NightRounds y = maker.make();
            due(what, call.on(x), answer);
            for (int i = 0; i < back; i++) due(what + ": back", x.back(), y.back());
            dueRow(what + ": changes, " + back + " nights back", unlike(seen(x), seen(y)), places);
            due(what + ": goes then", x.goes(), y.goes());
            dueRow(what + ": changes behind a round", unlike(seen(x), seen(y)), places);
        }
    }

    static void changesNothing(String what, Maker maker, Call call, long answer) {
        changesOnly(what, maker, call, answer);
    }

    /** Refused: changes nothing but how often, which is one more. */
    static void refused(String what, Maker maker, Call call, long answer, int count) {
        changesOnly(what, maker, call, answer, count);
        NightRounds x = maker.make();
        int before = x.count(count - COUNTS);
        call.on(x);
        due(what + ": counted once", x.count(count - COUNTS), before + 1);
        call.on(x);
        due(what + ": counted twice", x.count(count - COUNTS), before + 2);
    }
}
