import java.util.Arrays;

/** The night porter's rounds through a house of eight rooms; ../shared/DOC.md tells what each call promises. */
public final class NightRounds {
    public static final int NONE = -1, BAD = -2, NO = -3, FULL = -4;

    private static final int ROOMS = 8;
    private static final int TEXT_MOST = 100;
    private static final int DEPTH_MOST = 8;
    private static final int TICKS_MOST = 40;
    private static final int DIARY_MOST = 150;
    private static final int NIGHTS_MOST = 8;
    private static final int OPENINGS_MOST = 9999;
    private static final int OFTEN_MOST = 3;
    private static final int SEED_MOST = 999999;

    // What a room has, numbered as sets() and of() number it.
    private static final int KIND = 0, LOCK = 1, HOOK = 2, SLEEP = 3, AWAKE = 4, LAMP = 5, OPENINGS = 6, LOUDNESS = 7;
    private static final int ROOM_CELLS = 7;
    private static final int KEYS_CELL = ROOMS * ROOM_CELLS;
    private static final int SUM_CELL = KEYS_CELL + 1;
    private static final int HOUSE_CELLS = SUM_CELL + 1;

    private static final int QUIET = 0, CREAKY = 1, SWOLLEN = 2, OILED = 3, GROANING = 4;
    private static final int CREAK = 2;

    // What may befall, numbered as a round's ends.
    private static final int NOTHING = 0, LOCKED = 1, WOKEN = 2, DARK = 3, ALARM = 4, REPORT = 5, TIRED = 6;

    // What a tale knows of its round, numbered as was() numbers it.
    private static final int ENDED = 0, WHERE = 1, NUMBER = 2, BEHIND = 3, TICKS = 4, SUM = 5, MOST_OPEN = 6, BEFELL = 7;
    private static final int FACTS = 8;

    private static final int NOT_SO_MANY = -5;
    private static final int BAD_ENTRY = -10;
    private static final int FAULT_BASE = -10;
    private static final int OPENED = 10, SHUT = 20;

    /** The most that sets() takes for each of KIND, LOCK, HOOK, SLEEP. */
    private static final int[] SETS_MOST = {4, 3, 3, 9};
    /** All sets of keys, the fewest first and of like ones the least first. */
    private static final int[] KEY_SETS = {0, 2, 4, 8, 6, 10, 12, 14};
    /** What is put to 0 by each sort of cure. */
    private static final int[] CURED = {KIND, SLEEP, LOCK};

    private final House house = new House();
    private final House supposed = new House();
    private final Nights nights = new Nights();
    private final Script script = new Script();
    private final Tale last = new Tale();
    private final Tale unkept = new Tale();
    private final Porter porter = new Porter(script, house, last);
    private int bads;
    private int noes;
    private int fulls;

    public NightRounds() {
    }

    // ---- the house

    public int sets(int room, int what, int v) {
        if (!isRoom(room) || !within(what, KIND, SLEEP) || !within(v, 0, at(SETS_MOST, what))) {
            return refuse(BAD);
        }
        int before = house.cell(room, what);
        nights.keep(house);
        house.change(room, what, v);
        return before;
    }

    public int of(int room, int what) {
        if (!isRoom(room) || !within(what, KIND, LOUDNESS)) {
            return refuse(BAD);
        }
        return what == LOUDNESS ? house.loudness(room) : house.cell(room, what);
    }

    public int keys(int set) {
        if (!within(set, 0, 14) || (set & 1) != 0) {
            return refuse(BAD);
        }
        int before = house.keyring();
        nights.keep(house);
        house.giveKeys(set);
        return before;
    }

    public int dusk() {
        int before = house.roomsWith(AWAKE);
        nights.keep(house);
        house.settle();
        return before;
    }

    // ---- rounds

    public int type(int c) {
        if (!within(c, 0, 127)) {
            return refuse(BAD);
        }
        if (script.length() >= TEXT_MOST) {
            return refuse(FULL);
        }
        script.append(c);
        return script.length();
    }

    public int clear() {
        int before = script.length();
        script.empty();
        return before;
    }

    public int goes() {
        int fault = script.read();
        if (fault != NONE) {
            return FAULT_BASE - fault;
        }
        nights.keep(house);
        return porter.walk(house, last);
    }

    public int tries() {
        int fault = script.read();
        if (fault != NONE) {
            return FAULT_BASE - fault;
        }
        supposed.become(house);
        return porter.walk(supposed, last);
    }

    public int often(int n) {
        if (!within(n, 1, OFTEN_MOST)) {
            return refuse(BAD);
        }
        int fault = script.read();
        if (fault != NONE) {
            return FAULT_BASE - fault;
        }
        nights.keep(house);
        int well = 0;
        for (int i = 0; i < n && well == i; i++) {
            if (porter.walk(house, last) == NOTHING) {
                well++;
            }
        }
        return well;
    }

    // ---- what was, of the round the diary is of

    public int was(int what) {
        return within(what, ENDED, BEFELL) ? last.fact(what) : refuse(BAD);
    }

    public int root() {
        return last.innermost();
    }

    public int diary(int k) {
        if (k < NONE) {
            refuse(BAD);
            return BAD_ENTRY;
        }
        if (k == NONE) {
            return last.written();
        }
        return k < last.written() ? last.entry(k) : NOT_SO_MANY;
    }

    public int open() {
        return last.doorsOpen();
    }

    // ---- what would be

    public int fewest() {
        int fault = script.read();
        if (fault != NONE) {
            return FAULT_BASE - fault;
        }
        for (int i = 0; i < KEY_SETS.length; i++) {
            if (porter.walk(withKeys(KEY_SETS[i]), unkept) == NOTHING) {
                return KEY_SETS[i];
            }
        }
        return NONE;
    }

    public int were(int room, int kind) {
        if (!isRoom(room) || !within(kind, QUIET, GROANING)) {
            return refuse(BAD);
        }
        int fault = script.read();
        return fault != NONE ? FAULT_BASE - fault : porter.walk(withRoom(room, KIND, kind), unkept);
    }

    public int cures(int sort) {
        if (!within(sort, 0, CURED.length - 1)) {
            return refuse(BAD);
        }
        int fault = script.read();
        if (fault != NONE) {
            return FAULT_BASE - fault;
        }
        int bits = 0;
        for (int room = 0; room < ROOMS; room++) {
            if (porter.walk(withRoom(room, at(CURED, sort), 0), unkept) == NOTHING) {
                bits |= 1 << room;
            }
        }
        return bits;
    }

    public int ends(int end) {
        if (!within(end, NOTHING, TIRED)) {
            return refuse(BAD);
        }
        int fault = script.read();
        if (fault != NONE) {
            return FAULT_BASE - fault;
        }
        int found = 0;
        for (int i = 0; i < KEY_SETS.length; i++) {
            if (porter.walk(withKeys(KEY_SETS[i]), unkept) == end) {
                found++;
            }
        }
        return found;
    }

    public int told(int what) {
        if (!within(what, 0, 2)) {
            return refuse(BAD);
        }
        int fault = script.read();
        if (fault != NONE) {
            return FAULT_BASE - fault;
        }
        switch (what) {
            case 0: return script.acts();
            case 1: return script.deepest();
            default: return script.roomBits();
        }
    }

    // ---- what there is

    public int draw(int seed) {
        if (!within(seed, 0, SEED_MOST)) {
            return refuse(BAD);
        }
        nights.keep(house);
        house.drawFrom(seed);
        return 0;
    }

    public int back() {
        if (nights.held() == 0) {
            return refuse(NO);
        }
        nights.giveBack(house);
        return nights.held();
    }

    public int count(int what) {
        switch (what) {
            case 0: return bads;
            case 1: return noes;
            case 2: return fulls;
            case 3: return script.length();
            case 4: return nights.held();
            case 5: return house.keyring();
            case 6: return house.sum();
            case 7: return house.roomsWith(AWAKE);
            case 8: return house.roomsWith(LAMP);
            default: return refuse(BAD);
        }
    }

    public long digest() {
        long h = 1973;
        for (int what = 0; what <= 8; what++) {
            h = 31 * h + count(what);
        }
        for (int room = 0; room < ROOMS; room++) {
            for (int what = KIND; what <= OPENINGS; what++) {
                h = 31 * h + house.cell(room, what);
            }
        }
        for (int what = ENDED; what <= BEFELL; what++) {
            h = 31 * h + last.fact(what);
        }
        int entries = last.written();
        h = 31 * h + entries;
        for (int k = 0; k < entries; k++) {
            h = 31 * h + last.entry(k);
        }
        return h;
    }

    private int refuse(int why) {
        if (why == BAD) {
            bads++;
        } else if (why == NO) {
            noes++;
        } else {
            fulls++;
        }
        return why;
    }

    private House withKeys(int set) {
        supposed.become(house);
        supposed.giveKeys(set);
        return supposed;
    }

    private House withRoom(int room, int what, int v) {
        supposed.become(house);
        supposed.change(room, what, v);
        return supposed;
    }

    private static boolean within(int v, int least, int most) {
        return v >= least && v <= most;
    }

    private static boolean isRoom(int room) {
        return within(room, 0, ROOMS - 1);
    }

    /** Looks at the index first, so that nothing is ever thrown. */
    private static int at(int[] row, int i) {
        return i >= 0 && i < row.length ? row[i] : 0;
    }

    private static void put(int[] row, int i, int v) {
        if (i >= 0 && i < row.length) {
            row[i] = v;
        }
    }

    /** The rooms and the porter's keys and sum: all that a night brings back, in one row so that it is copied at once. */
    private static final class House {
        private final int[] cells = new int[HOUSE_CELLS];

        int cell(int room, int what) {
            int i = room * ROOM_CELLS + what;
            return i >= 0 && i < HOUSE_CELLS ? cells[i] : 0;
        }

        private void setCell(int room, int what, int v) {
            int i = room * ROOM_CELLS + what;
            if (i >= 0 && i < HOUSE_CELLS) {
                cells[i] = v;
            }
        }

        void change(int room, int what, int v) {
            setCell(room, what, v);
            if (what == SLEEP) {
                setCell(room, AWAKE, 0);
            }
        }

        int keyring() {
            return cells[KEYS_CELL];
        }

        void giveKeys(int set) {
            cells[KEYS_CELL] = set;
        }

        int sum() {
            return cells[SUM_CELL];
        }

        void addToSum(int more) {
            cells[SUM_CELL] += more;
        }

        int loudness(int room) {
            int openings = cell(room, OPENINGS);
            switch (cell(room, KIND)) {
                case CREAKY: return CREAK;
                case SWOLLEN: return swollen(openings);
                case OILED: return openings > 2 ? 0 : CREAK;
                case GROANING: return 2 * swollen(openings);
                default: return 0;
            }
        }

        private static int swollen(int openings) {
            return CREAK + openings % 3;
        }

        boolean admits(int room) {
            int lock = cell(room, LOCK);
            return lock == 0 || (keyring() & 1 << lock) != 0;
        }

        /** The sleep of a guest who is asleep; 0 if nobody is. */
        int sleepNow(int room) {
            return cell(room, AWAKE) == 0 ? cell(room, SLEEP) : 0;
        }

        /** Whether the guest slept and sleeps no longer. */
        boolean wakes(int room, int noise) {
            int sleep = sleepNow(room);
            if (sleep == 0 || noise < sleep) {
                return false;
            }
            setCell(room, AWAKE, 1);
            return true;
        }

        void openDoor(int room) {
            setCell(room, OPENINGS, Math.min(cell(room, OPENINGS) + 1, OPENINGS_MOST));
        }

        void turnLamp(int room) {
            setCell(room, LAMP, 1 - cell(room, LAMP));
        }

        void takeKey(int room) {
            int hook = cell(room, HOOK);
            if (hook != 0) {
                giveKeys(keyring() | 1 << hook);
                setCell(room, HOOK, 0);
            }
        }

        int roomsWith(int what) {
            int rooms = 0;
            for (int room = 0; room < ROOMS; room++) {
                if (cell(room, what) != 0) {
                    rooms++;
                }
            }
            return rooms;
        }

        void settle() {
            for (int room = 0; room < ROOMS; room++) {
                setCell(room, AWAKE, 0);
                setCell(room, LAMP, 0);
            }
        }

        void become(House other) {
            System.arraycopy(other.cells, 0, cells, 0, HOUSE_CELLS);
        }

        void drawFrom(int seed) {
            Arrays.fill(cells, 0);
            long x = seed;
            for (int room = 0; room < ROOMS; room++) {
                x = (x * 1103515245L + 12345L) % 2147483648L;
                setCell(room, KIND, (int) (x / 65536 % 5));
                setCell(room, LOCK, upToThree((int) (x / 1024 % 8)));
                setCell(room, HOOK, upToThree((int) (x / 4096 % 8)));
                setCell(room, SLEEP, (int) (x / 16384 % 10));
            }
        }

        private static int upToThree(int v) {
            return v > 3 ? 0 : v;
        }
    }

    /** The nights to go back to, the newest last. */
    private static final class Nights {
        private final int[] rows = new int[NIGHTS_MOST * HOUSE_CELLS];
        private int held;

        int held() {
            return held;
        }

        void keep(House house) {
            if (held >= NIGHTS_MOST) {
                System.arraycopy(rows, HOUSE_CELLS, rows, 0, rows.length - HOUSE_CELLS);
                held = NIGHTS_MOST - 1;
            }
            System.arraycopy(house.cells, 0, rows, held * HOUSE_CELLS, HOUSE_CELLS);
            held++;
        }

        void giveBack(House house) {
            if (held > 0) {
                held--;
                System.arraycopy(rows, held * HOUSE_CELLS, house.cells, 0, HOUSE_CELLS);
            }
        }
    }

    /** What became of one round: the facts of was() and the diary. */
    private static final class Tale {
        private final int[] facts = new int[FACTS];
        private final int[] entries = new int[DIARY_MOST];
        private int written;
        private int innermost;
        private int doorsOpen;

        Tale() {
            begin();
        }

        void begin() {
            Arrays.fill(facts, 0);
            written = 0;
            doorsOpen = 0;
            calm();
        }

        /** What befell has been seen to, and is over. */
        void calm() {
            facts[ENDED] = NOTHING;
            facts[WHERE] = NONE;
            facts[NUMBER] = NONE;
            facts[BEHIND] = 0;
            innermost = NONE;
        }

        void befall(int what, int room, int number) {
            facts[ENDED] = what;
            facts[WHERE] = room;
            facts[NUMBER] = number;
            facts[BEFELL]++;
        }

        void report() {
            if (facts[ENDED] != REPORT) {
                innermost = facts[ENDED];
            }
            facts[BEHIND]++;
            befall(REPORT, facts[WHERE], NONE);
        }

        int fact(int what) {
            return at(facts, what);
        }

        int innermost() {
            return innermost;
        }

        /** False when the porter is too tired for one tick more. */
        boolean tick() {
            if (facts[TICKS] >= TICKS_MOST) {
                return false;
            }
            facts[TICKS]++;
            return true;
        }

        void doorOpened(int room) {
            doorsOpen++;
            facts[MOST_OPEN] = Math.max(facts[MOST_OPEN], doorsOpen);
            write(OPENED + room);
        }

        void doorShut(int room) {
            doorsOpen--;
            write(SHUT + room);
        }

        int doorsOpen() {
            return doorsOpen;
        }

        private void write(int entry) {
            if (written < DIARY_MOST) {
                entries[written] = entry;
                written++;
            }
        }

        int written() {
            return written;
        }

        int entry(int k) {
            return at(entries, k);
        }

        void close(int sum) {
            facts[SUM] = sum;
        }
    }

    /**
     * The text, and the acts that were read from it, in the order in which they begin: an act's first parts follow it
     * up to its middle, its second parts from there up to its next, the act that begins when this one is over.
     */
    private static final class Script {
        static final int ROOM_ACT = 'R';
        private static final int TEXT_END = -1;

        private final int[] text = new int[TEXT_MOST];
        private final int[] signs = new int[TEXT_MOST];
        private final int[] figures = new int[TEXT_MOST];
        private final int[] middles = new int[TEXT_MOST];
        private final int[] nexts = new int[TEXT_MOST];
        private int length;
        private int acts;
        private int deepest;
        private int roomBits;
        private int place;
        private int fault;

        int length() {
            return length;
        }

        void append(int c) {
            if (length < TEXT_MOST) {
                text[length] = c;
                length++;
            }
        }

        void empty() {
            length = 0;
        }

        int acts() {
            return acts;
        }

        int deepest() {
            return deepest;
        }

        int roomBits() {
            return roomBits;
        }

        int sign(int act) {
            return at(signs, act);
        }

        int figure(int act) {
            return at(figures, act);
        }

        int middle(int act) {
            return at(middles, act);
        }

        int next(int act) {
            return at(nexts, act);
        }

        /** The fault, or NONE. */
        int read() {
            acts = 0;
            deepest = 0;
            roomBits = 0;
            place = 0;
            fault = NONE;
            readActs(0);
            if (fault == NONE && nextSign() != TEXT_END) {
                fault = place;
            }
            return fault;
        }

        /** The sign at the place behind all blanks there. */
        private int nextSign() {
            while (place < length && text[place] == ' ') {
                place++;
            }
            return place < length ? text[place] : TEXT_END;
        }

        private void readActs(int depth) {
            for (int i = 0; i < TEXT_MOST && fault == NONE && beginsAct(nextSign()); i++) {
                readAct(depth);
            }
        }

        private void readAct(int depth) {
            int sign = nextSign();
            if (holdsActs(sign)) {
                if (depth >= DEPTH_MOST) {
                    fault = place;
                    return;
                }
                deepest = Math.max(deepest, depth + 1);
            }
            int act = acts;
            acts++;
            place++;
            put(signs, act, isRoomSign(sign) ? ROOM_ACT : sign);
            put(figures, act, isRoomSign(sign) ? sign - '0' : 0);
            readRest(act, sign, depth + 1);
            put(nexts, act, acts);
        }

        private void readRest(int act, int sign, int depth) {
            switch (sign) {
                case '!':
                    put(figures, act, readFigure());
                    break;
                case '(':
                    readParts(act, '/', ')', depth);
                    break;
                case '[':
                    readParts(act, '/', ']', depth);
                    break;
                case '<':
                    readParts(act, NONE, '>', depth);
                    break;
                case 'x':
                    put(figures, act, readFigure());
                    expect(':');
                    readParts(act, NONE, ';', depth);
                    break;
                default:
                    if (isRoomSign(sign)) {
                        roomBits |= 1 << sign - '0';
                        expect('{');
                        readParts(act, NONE, '}', depth);
                    }
                    break;
            }
        }

        /** What an act holds: one part, or two where a divider stands between them. */
        private void readParts(int act, int divider, int closing, int depth) {
            readActs(depth);
            put(middles, act, acts);
            if (divider != NONE) {
                expect(divider);
                readActs(depth);
            }
            expect(closing);
        }

        private void expect(int sign) {
            if (fault != NONE) {
                return;
            }
            if (nextSign() == sign) {
                place++;
            } else {
                fault = place;
            }
        }

        private int readFigure() {
            int sign = nextSign();
            if (!within(sign, '0', '9')) {
                fault = place;
                return 0;
            }
            place++;
            return sign - '0';
        }

        private static boolean isRoomSign(int sign) {
            return within(sign, '0', '7');
        }

        private static boolean holdsActs(int sign) {
            return isRoomSign(sign) || sign == '(' || sign == '[' || sign == '<' || sign == 'x';
        }

        private static boolean beginsAct(int sign) {
            return holdsActs(sign) || sign == 'l' || sign == 'k' || sign == 'w' || sign == 'b' || sign == '+' || sign == '!';
        }
    }

    /** Goes the round that the script has read. Each of his doings tells whether it ended with nothing befalling. */
    private static final class Porter {
        private static final int HALL = NONE;

        private final Script script;
        private House house;
        private Tale tale;

        Porter(Script script, House house, Tale tale) {
            this.script = script;
            this.house = house;
            this.tale = tale;
        }

        int walk(House through, Tale teller) {
            house = through;
            tale = teller;
            tale.begin();
            doActs(0, script.acts(), HALL, 0);
            tale.close(house.sum());
            return tale.fact(ENDED);
        }

        private boolean doActs(int from, int to, int room, int depth) {
            int act = from;
            // The reader lets nothing through that lies deeper.
            for (int i = 0; i < TEXT_MOST && act < to && depth <= DEPTH_MOST; i++) {
                if (!doAct(act, room, depth)) {
                    return false;
                }
                act = script.next(act);
            }
            return true;
        }

        private boolean doAct(int act, int room, int depth) {
            if (!tale.tick()) {
                return befalls(TIRED, room);
            }
            switch (script.sign(act)) {
                case Script.ROOM_ACT: return goInto(act, room, depth);
                case '(': return doOrElse(act, room, depth);
                case '[': return doAndHear(act, room, depth);
                case '<': return doAndReport(act, room, depth);
                case 'x': return doSoOften(act, room, depth);
                case '!':
                    tale.befall(ALARM, room, script.figure(act));
                    return false;
                case '+':
                    house.addToSum(tale.doorsOpen());
                    return true;
                default: return room == HALL ? befalls(DARK, room) : doInRoom(script.sign(act), room);
            }
        }

        private boolean befalls(int what, int room) {
            tale.befall(what, room, NONE);
            return false;
        }

        private boolean doFirstPart(int act, int room, int depth) {
            return doActs(act + 1, script.middle(act), room, depth + 1);
        }

        private boolean doSecondPart(int act, int room, int depth) {
            tale.calm();
            return doActs(script.middle(act), script.next(act), room, depth + 1);
        }

        private boolean goInto(int act, int from, int depth) {
            int room = script.figure(act);
            if (!house.admits(room)) {
                return befalls(LOCKED, from);
            }
            house.openDoor(room);
            tale.doorOpened(room);
            boolean well = house.wakes(room, house.loudness(room))
                    ? befalls(WOKEN, room)
                    : doFirstPart(act, room, depth);
            tale.doorShut(room);
            house.wakes(room, house.loudness(room) - 1);
            return well;
        }

        private boolean doOrElse(int act, int room, int depth) {
            if (doFirstPart(act, room, depth)) {
                return true;
            }
            return within(tale.fact(ENDED), LOCKED, DARK) && doSecondPart(act, room, depth);
        }

        private boolean doAndHear(int act, int room, int depth) {
            if (doFirstPart(act, room, depth)) {
                return true;
            }
            int what = tale.fact(ENDED);
            if (what != ALARM && what != REPORT) {
                return false;
            }
            house.addToSum(tale.fact(what == ALARM ? NUMBER : BEHIND));
            return doSecondPart(act, room, depth);
        }

        private boolean doAndReport(int act, int room, int depth) {
            if (doFirstPart(act, room, depth)) {
                return true;
            }
            if (tale.fact(ENDED) != TIRED) {
                tale.report();
            }
            return false;
        }

        private boolean doSoOften(int act, int room, int depth) {
            int times = script.figure(act);
            for (int i = 0; i < times; i++) {
                if (!doFirstPart(act, room, depth)) {
                    return false;
                }
            }
            return true;
        }

        private boolean doInRoom(int sign, int room) {
            switch (sign) {
                case 'l':
                    house.turnLamp(room);
                    return true;
                case 'k':
                    house.takeKey(room);
                    return true;
                case 'w':
                    return house.wakes(room, house.cell(room, SLEEP)) ? befalls(WOKEN, room) : true;
                default:
                    if (house.cell(room, LAMP) == 0) {
                        return befalls(DARK, room);
                    }
                    house.addToSum(house.sleepNow(room));
                    return true;
            }
        }
    }
}
