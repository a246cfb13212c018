import java.lang.reflect.Field;
import java.lang.reflect.Method;
import java.util.Arrays;

/**
 * The boundary cases of the nights and of each promise: the last input that is taken and the first that is refused on
 * either side, what the refused call answers, and that it changes nothing but how often such calls were refused.
 */
public final class PromiseEdgeTest extends Checks {
    private static final int LEAST = Integer.MIN_VALUE, MOST = Integer.MAX_VALUE;
    private static final Maker[] HOUSES = {NightRounds::new, PromiseEdgeTest::livedIn, PromiseEdgeTest::full, PromiseEdgeTest::faulty};
    private static final String[] HOUSE_NAMES = {"new", "lived in", "full", "faulty"};

    public static void main(String[] args) throws Exception {
        theHousesOfTheseTests();
        nightsAreLeftByCallsToldN();
        nightsAreLeftByNoOtherCall();
        nightsAreEightAtMost();
        nightsAreAsAheadOfTheCall();
        badComesAheadOfFull();
        badComesAheadOfAFault();
        byAFaultAllStays();
        promise01newObject();
        promise02sets();
        promise02setsAsleep();
        promise03of();
        promise04keys();
        promise05dusk();
        promise06type();
        promise07clear();
        promise08goes();
        promise09tries();
        promise10often();
        promise10oftenAsLongAsItEnds0();
        promise11was();
        promise11wasOfAReport();
        promise12root();
        promise13diary();
        promise13diaryHas150AtMost();
        promise14open();
        promise15fewest();
        promise16were();
        promise17cures();
        promise18ends();
        promise19told();
        whatWouldBeChangesNothing();
        promise20draw();
        promise20drawAllElseAsAtFirst();
        promise21back();
        promise22count();
        promise23digest();
        end();
    }

    // ---- houses in which calls are refused

    /** Refusals of two kinds, five nights, a guest awake, a lamp on, keys, a sum, a report in the diary. */
    private static NightRounds livedIn() {
        NightRounds x = with("(0{lw}/)1{k}2{l+}3{<!4>}");
        x.back();
        x.type(128);
        x.sets(0, SLEEP, 3);
        x.sets(1, HOOK, 2);
        x.sets(2, LOCK, 2);
        x.sets(3, KIND, 4);
        x.goes();
        return x;
    }

    /** A text of 100 bytes, one refused, nights lost, all keys, eight guests of whom some are awake. */
    private static NightRounds full() {
        NightRounds x = with("x2:(0{lw}/)(1{w}/)(2{l}/)7{[!9/]+};" + " ".repeat(65));
        x.type('+');
        for (int room = 0; room < 8; room++) x.sets(room, SLEEP, 9 - room);
        x.sets(2, KIND, 4);
        x.keys(14);
        x.goes();
        return x;
    }

    private static NightRounds faulty() {
        NightRounds x = livedIn();
        x.type('}');
        return x;
    }

    private static void theHousesOfTheseTests() {
        int[][] counts = {{0, 0, 0, 0, 0, 0, 0, 0, 0}, {1, 1, 0, 24, 5, 4, 1, 1, 2}, {0, 0, 1, 100, 8, 14, 20, 3, 1}, {1, 1, 0, 25, 5, 4, 1, 1, 2}};
        int[] told = {0, 12, 15, -34};
        for (int i = 0; i < HOUSES.length; i++) {
            NightRounds x = HOUSES[i].make();
            for (int what = 0; what <= 8; what++) due("house " + HOUSE_NAMES[i] + " count " + what, x.count(what), counts[i][what]);
            due("house " + HOUSE_NAMES[i] + " told", x.told(0), told[i]);
        }
    }

    /** Refused as BAD in each of the houses. */
    private static void bad(String what, Call call) {
        bad(what, call, -2);
    }

    private static void bad(String what, Call call, int answer) {
        for (int i = 0; i < HOUSES.length; i++) refused(what + " (" + HOUSE_NAMES[i] + ")", HOUSES[i], call, answer, BADS);
    }

    private static void nothingChangesBy(String what, Call call) {
        for (int i = 0; i < HOUSES.length; i++) {
            changesNothing(what + " (" + HOUSE_NAMES[i] + ")", HOUSES[i], call, call.on(HOUSES[i].make()));
        }
    }

    // ---- nights, and in which order calls are refused

    private static final String[] TOLD_N_NAMES = {"sets", "keys", "dusk", "goes", "often", "draw"};
    private static final Call[] TOLD_N = {x -> x.sets(4, KIND, 0), x -> x.keys(0), x -> x.dusk(), x -> x.goes(), x -> x.often(3), x -> x.draw(0)};

    private static void nightsAreLeftByCallsToldN() {
        for (int i = 0; i < TOLD_N.length; i++) {
            NightRounds x = with("(0{l}/)");
            for (int nights = 1; nights <= 10; nights++) {
                TOLD_N[i].on(x);
                due("nights: " + TOLD_N_NAMES[i] + " leaves one", x.count(4), Math.min(nights, 8));
            }
            x = with("b");
            TOLD_N[i].on(x);
            due("nights: " + TOLD_N_NAMES[i] + " leaves one where something befalls or nothing changes", x.count(4), 1);
        }
    }

    private static void nightsAreLeftByNoOtherCall() {
        Call[] others = {x -> x.of(0, 0), x -> x.type('+'), x -> x.clear(), x -> x.tries(), x -> x.was(0), x -> x.root(), x -> x.diary(-1), x -> x.open(),
            x -> x.fewest(), x -> x.were(0, 0), x -> x.cures(0), x -> x.ends(0), x -> x.told(0), x -> x.count(4), x -> x.digest()};
        for (int i = 0; i < others.length; i++) {
            NightRounds x = with("0{l}");
            others[i].on(x);
            due("nights: none by the other call " + i, x.count(4), 0);
            x.keys(2);
            others[i].on(x);
            due("nights: no more by the other call " + i, x.count(4), 1);
        }
    }

    private static void nightsAreEightAtMost() {
        for (int calls = 0; calls <= 12; calls++) {
            NightRounds x = new NightRounds();
            for (int i = 1; i <= calls; i++) x.sets(i % 8, SLEEP, i % 10);
            NightRounds y = new NightRounds();
            for (int i = 1; i <= calls - 8; i++) y.sets(i % 8, SLEEP, i % 10);
            int nights = Math.min(calls, 8);
            due("nights: of " + calls, x.count(4), nights);
            for (int left = nights - 1; left >= 0; left--) due("nights: back of " + calls, x.back(), left);
            for (int room = 0; room < 8; room++) dueRow("nights: older ones lost of " + calls, room(x, room), room(y, room));
            due("nights: no more of " + calls, x.back(), -3);
        }
    }

    /** Not the text, the diary with what was, nor how often calls were refused. */
    private static void nightsAreAsAheadOfTheCall() {
        for (int i = 0; i < TOLD_N.length; i++) {
            for (int house = 0; house < 3; house++) {
                NightRounds x = HOUSES[house].make();
                NightRounds y = HOUSES[house].make();
                int nights = Math.min(x.count(4), 7);
                TOLD_N[i].on(x);
                x.keys(3);
                x.type('+');
                int typed = y.count(3) == 100 ? 2 : 1;
                due("nights: back from " + TOLD_N_NAMES[i], x.back(), nights);
                for (int room = 0; room < 8; room++) dueRow("nights: a room ahead of " + TOLD_N_NAMES[i], room(x, room), room(y, room));
                for (int what = 5; what <= 8; what++) due("nights: count ahead of " + TOLD_N_NAMES[i], x.count(what), y.count(what));
                due("nights: the text is not taken back", x.count(3), y.count(3) + 2 - typed);
                due("nights: how often BAD is not taken back", x.count(0), y.count(0) + 1);
                due("nights: how often FULL is not taken back", x.count(2), y.count(2) + typed - 1);
            }
        }
        NightRounds x = with("0{+!5}");
        x.goes();
        x.back();
        dueRow("nights: what was is not taken back", was(x), 4, 0, 5, 0, 3, 1, 1, 1);
        dueRow("nights: the diary is not taken back", diary(x), 10, 20);
        due("nights: the sum is", x.count(6), 0);
    }

    private static void badComesAheadOfFull() {
        refused("BAD ahead of FULL: type(128)", PromiseEdgeTest::full, x -> x.type(128), -2, BADS);
        refused("BAD ahead of FULL: type(-1)", PromiseEdgeTest::full, x -> x.type(-1), -2, BADS);
    }

    private static void badComesAheadOfAFault() {
        Call[] calls = {x -> x.often(0), x -> x.often(4), x -> x.were(8, 0), x -> x.were(0, 5), x -> x.cures(3), x -> x.ends(7), x -> x.told(3)};
        for (int i = 0; i < calls.length; i++) refused("BAD ahead of a fault: call " + i, PromiseEdgeTest::faulty, calls[i], -2, BADS);
    }

    private static final Call[] READERS = {x -> x.goes(), x -> x.tries(), x -> x.often(1), x -> x.often(3), x -> x.fewest(), x -> x.were(0, 0),
        x -> x.were(7, 4), x -> x.cures(0), x -> x.cures(2), x -> x.ends(0), x -> x.ends(6), x -> x.told(0), x -> x.told(1), x -> x.told(2)};

    private static void byAFaultAllStays() {
        String[] texts = {")", "0", "0{l}}", "<<<<<<<<<>>>>>>>>>", " ".repeat(99) + ")", " ".repeat(99) + "<"};
        int[] faults = {0, 1, 4, 8, 99, 100};
        for (int t = 0; t < texts.length; t++) {
            String text = texts[t];
            Maker maker = () -> {
                NightRounds x = livedIn();
                text(x, text);
                return x;
            };
            for (int i = 0; i < READERS.length; i++) {
                changesNothing("by a FAULT all stays: call " + i + " at " + faults[t], maker, READERS[i], -10 - faults[t]);
            }
        }
    }

    // ---- the house

    private static void promise01newObject() {
        NightRounds x = new NightRounds();
        due("1: of a room", x.of(0, KIND) + x.of(7, LOUD), 0);
        due("1: no night", x.back(), -3);
        due("1: no text", x.clear(), 0);
        due("1: no diary", x.diary(0), -5);
        due("1: no keys", x.keys(0), 0);
        due("1: nobody awake", x.dusk(), 0);
        NightRounds y = new NightRounds();
        due("1: one object is not another", y.count(1) + y.count(4), 0);
    }

    private static void promise02sets() {
        int[] most = {4, 3, 3, 9};
        for (int what = 0; what <= 3; what++) {
            for (int room = 0; room < 8; room++) {
                NightRounds x = new NightRounds();
                for (int v = 0; v <= most[what]; v++) {
                    due("2: sets(" + room + ", " + what + ", " + v + ")", x.sets(room, what, v), Math.max(v - 1, 0));
                    due("2: so it is", x.of(room, what), v);
                    due("2: another room", x.of((room + 1) % 8, what), 0);
                }
                due("2: none refused", x.count(0), 0);
                due("2: back to 0", x.sets(room, what, 0), most[what]);
                setsChangesOnly(room, what, most[what]);
            }
            int w = what;
            bad("2: below 0, what " + what, x -> x.sets(3, w, -1));
            bad("2: above the most, what " + what, x -> x.sets(3, w, most[w] + 1));
            bad("2: far below, what " + what, x -> x.sets(3, w, LEAST));
            bad("2: far above, what " + what, x -> x.sets(3, w, MOST));
            bad("2: room -1, what " + what, x -> x.sets(-1, w, 0));
            bad("2: room 8, what " + what, x -> x.sets(8, w, 0));
        }
        bad("2: what -1", x -> x.sets(0, -1, 0));
        bad("2: what 4", x -> x.sets(0, 4, 0));
        bad("2: what 5", x -> x.sets(0, 5, 1));
        bad("2: what 6", x -> x.sets(0, 6, 1));
        bad("2: far what", x -> x.sets(0, MOST, 0));
        bad("2: far room", x -> x.sets(LEAST, 0, 0));
        bad("2: the next room by another what", x -> x.sets(0, 7, 1));
        bad("2: the room before by another what", x -> x.sets(1, -7, 1));
        bad("2: all wrong is refused once", x -> x.sets(-1, -1, -1));
    }

    /** One room's number, how loud its door is by that, and one night. */
    private static void setsChangesOnly(int room, int what, int v) {
        NightRounds x = new NightRounds();
        int[] before = seen(x);
        x.sets(room, what, v);
        int[] changed = unlike(before, seen(x));
        if (what == KIND) {
            dueRow("2: sets changes only the kind of " + room, changed, cell(room, KIND), cell(room, LOUD), NIGHTS);
        } else {
            dueRow("2: sets changes only " + what + " of " + room, changed, cell(room, what), NIGHTS);
        }
    }

    private static void promise02setsAsleep() {
        for (int sleep = 0; sleep <= 9; sleep++) {
            NightRounds x = with("5{w}");
            x.sets(5, SLEEP, 4);
            x.goes();
            due("2: awake ahead of it", x.of(5, AWAKE), 1);
            due("2: sleep " + sleep, x.sets(5, SLEEP, sleep), 4);
            due("2: asleep then", x.of(5, AWAKE), 0);
            due("2: none awake then", x.count(7), 0);
            x.back();
            due("2: awake a night ago", x.of(5, AWAKE), 1);
            for (int what = 0; what < 3; what++) x.sets(5, what, 1);
            due("2: the others let him be", x.of(5, AWAKE), 1);
            x.sets(4, SLEEP, 4);
            due("2: another's sleep, too", x.of(5, AWAKE), 1);
        }
    }

    private static void promise03of() {
        for (int room = 0; room < 8; room++) {
            for (int what = 0; what < 8; what++) {
                int r = room;
                int w = what;
                nothingChangesBy("3: of(" + room + ", " + what + ")", x -> x.of(r, w));
            }
        }
        int[] wrong = {LEAST, -1, 8, MOST};
        for (int v : wrong) {
            bad("3: room " + v, x -> x.of(v, 0));
            bad("3: how loud room " + v, x -> x.of(v, 7));
            bad("3: what " + v, x -> x.of(0, v));
            bad("3: what " + v + " of room 7", x -> x.of(7, v));
        }
        NightRounds x = with("(6{lw}/)");
        x.sets(6, SLEEP, 9);
        x.sets(6, KIND, 4);
        x.goes();
        dueRow("3: of an awake guest", room(x, 6), 4, 0, 0, 9, 1, 1, 1, 6);
        x.sets(6, SLEEP, 0);
        dueRow("3: no guest: 0", room(x, 6), 4, 0, 0, 0, 0, 1, 1, 6);
    }

    private static void promise04keys() {
        NightRounds x = new NightRounds();
        int before = 0;
        for (int set = 0; set <= 14; set += 2) {
            due("4: keys " + set, x.keys(set), before);
            due("4: keys " + set + " counted", x.count(5), set);
            before = set;
        }
        due("4: and none again", x.keys(0), 14);
        due("4: none refused", x.count(0), 0);
        for (int odd = -3; odd <= 17; odd += 2) {
            int set = odd;
            bad("4: bit 0, keys(" + odd + ")", y -> y.keys(set));
        }
        int[] wrong = {LEAST, -16, -2, 16, 18, 1 << 16, MOST - 1, MOST};
        for (int set : wrong) bad("4: keys(" + set + ")", y -> y.keys(set));
    }

    private static void promise05dusk() {
        for (int guests = 0; guests <= 8; guests++) {
            NightRounds x = new NightRounds();
            for (int room = 0; room < guests; room++) {
                x.sets(room, SLEEP, 9 - room);
                text(x, room + "{lw}");
                x.goes();
            }
            due("5: awake " + guests, x.count(7), guests);
            due("5: lamps " + guests, x.count(8), guests);
            due("5: dusk of " + guests, x.dusk(), guests);
            due("5: asleep " + guests, x.count(7) + x.count(8), 0);
            for (int room = 0; room < guests; room++) dueRow("5: a room at dusk", room(x, room), 0, 0, 0, 9 - room, 0, 0, 1, 0);
            due("5: dusk again", x.dusk(), 0);
            due("5: a night all the same", x.back() >= 0 && x.back() >= 0 ? x.count(7) : 0, guests);
        }
        NightRounds x = with("(0{w}/)");
        x.sets(0, SLEEP, 1);
        x.goes();
        due("5: one awake in the dark", x.dusk(), 1);
        text(x, "6{l}7{l}");
        x.sets(6, SLEEP, 1);
        x.goes();
        due("5: lamps on, but all asleep", x.dusk(), 0);
        due("5: the lamps are off all the same", x.count(8), 0);
    }

    // ---- rounds

    private static void promise06type() {
        NightRounds x = new NightRounds();
        due("6: byte 0", x.type(0), 1);
        due("6: byte 127", x.type(127), 2);
        due("6: none refused", x.count(0), 0);
        int[] wrong = {LEAST, -128, -1, 128, 256 + '+', MOST};
        for (int c : wrong) bad("6: byte " + c, y -> y.type(c));
        x = new NightRounds();
        for (int i = 1; i <= 99; i++) x.type(' ');
        due("6: the 100th", x.type('+'), 100);
        due("6: none refused up to 100", x.count(2), 0);
        int[] right = {0, ' ', '+', '}', 127};
        for (int c : right) refused("6: FULL: byte " + c, PromiseEdgeTest::full, y -> y.type(c), -4, FULLS);
        x.type('+');
        due("6: FULL counts", x.count(2), 1);
        x.clear();
        due("6: room again", x.type('+'), 1);
        changesOnly("6: a blank changes but how many", PromiseEdgeTest::livedIn, y -> y.type(' '), 25, COUNTS + 3);
    }

    private static void promise07clear() {
        int[] lengths = {0, 1, 99, 100, 101};
        for (int length : lengths) {
            NightRounds x = with(" ".repeat(length));
            due("7: clear of " + length, x.clear(), Math.min(length, 100));
            due("7: empty then", x.count(3), 0);
            due("7: clear again", x.clear(), 0);
            due("7: none refused by it", x.count(0) + x.count(1), 0);
        }
        NightRounds x = with("0{!7}");
        x.goes();
        x.clear();
        dueRow("7: the diary stays", diary(x), 10, 20);
        dueRow("7: what was stays", was(x), 4, 0, 7, 0, 2, 0, 1, 1);
        due("7: the night stays", x.count(4), 1);
        due("7: the house stays", x.of(0, OPENINGS), 1);
    }

    private static void promise08goes() {
        due("8: fault 0", with("}").goes(), -10);
        due("8: fault 1", with("0").goes(), -11);
        due("8: fault 99", with(" ".repeat(99) + "}").goes(), -109);
        due("8: fault 100", with(" ".repeat(99) + "0").goes(), -110);
        NightRounds x = with("0{!1}");
        x.goes();
        text(x, "1{}1");
        due("8: a fault behind an act", x.goes(), -14);
        due("8: the act is not done", x.of(1, OPENINGS), 0);
        dueRow("8: the diary is of the one before", diary(x), 10, 20);
        due("8: no night by it", x.count(4), 1);
        x.clear();
        due("8: no acts", x.goes(), 0);
        due("8: the diary is of it", x.diary(-1), 0);
        due("8: N", x.count(4), 2);
    }

    private static void promise09tries() {
        for (int i = 0; i < 3; i++) {
            NightRounds x = HOUSES[i].make();
            NightRounds y = HOUSES[i].make();
            int ends = x.tries();
            int[] tried = seen(x);
            int[] stayed = seen(y);
            dueRow("9: all but the diary stays (" + HOUSE_NAMES[i] + ")", unlike(Arrays.copyOf(tried, WAS), Arrays.copyOf(stayed, WAS)));
            due("9: what goes() would tell (" + HOUSE_NAMES[i] + ")", y.goes(), ends);
            int[] gone = seen(y);
            dueRow("9: and was (" + HOUSE_NAMES[i] + ")", unlike(Arrays.copyOfRange(tried, WAS, tried.length), Arrays.copyOfRange(gone, WAS, gone.length)));
            due("9: tries again (" + HOUSE_NAMES[i] + ")", x.tries(), ends);
            due("9: goes then (" + HOUSE_NAMES[i] + ")", x.goes(), ends);
            dueRow("9: as if never tried (" + HOUSE_NAMES[i] + ")", unlike(seen(x), gone));
        }
        due("9: fault 0", with("}").tries(), -10);
        due("9: fault 100", with(" ".repeat(99) + "0").tries(), -110);
    }

    private static void promise10often() {
        for (int n = 1; n <= 3; n++) {
            NightRounds x = with("0{+l}");
            due("10: often " + n, x.often(n), n);
            due("10: openings of " + n, x.of(0, OPENINGS), n);
            due("10: one night of " + n, x.count(4), 1);
            due("10: none refused of " + n, x.count(0), 0);
            dueRow("10: was of the last of " + n, was(x), 0, -1, -1, 0, 3, n, 1, 0);
            dueRow("10: the diary of the last of " + n, diary(x), 10, 20);
            due("10: back ahead of all " + n, x.back(), 0);
            due("10: none then of " + n, x.of(0, OPENINGS), 0);
        }
        int[] wrong = {LEAST, -1, 0, 4, MOST};
        for (int n : wrong) bad("10: often(" + n + ")", y -> y.often(n));
        due("10: fault 0", with("}").often(1), -10);
        due("10: fault 100", with(" ".repeat(99) + "0").often(3), -110);
    }

    /** A swollen door: 2 loud at its third opening, 3 at the fourth, 4 at the fifth. */
    private static void promise10oftenAsLongAsItEnds0() {
        int[] sleeps = {2, 3, 4, 5};
        for (int i = 0; i < sleeps.length; i++) {
            for (int n = 1; n <= 3; n++) {
                NightRounds x = with("6{}");
                x.goes();
                x.goes();
                x.sets(6, KIND, 2);
                x.sets(6, SLEEP, sleeps[i]);
                String what = "10: woken by the " + (i + 1) + "th of " + n;
                due(what, x.often(n), Math.min(i, n));
                due(what + ": none goes behind it", x.of(6, OPENINGS), 2 + Math.min(i + 1, n));
                due(what + ": the last one ended", x.was(0), i < n ? 2 : 0);
                dueRow(what + ": the diary is of the last one", diary(x), 16, 26);
                due(what + ": one night", x.count(4), 5);
            }
        }
    }

    // ---- what was

    private static void promise11was() {
        for (int what = 0; what <= 7; what++) {
            int w = what;
            nothingChangesBy("11: was(" + what + ")", x -> x.was(w));
        }
        int[] wrong = {LEAST, -1, 8, MOST};
        for (int what : wrong) bad("11: was(" + what + ")", x -> x.was(what));
        String[] texts = {"", "l", "0{b}", "7{7{b}}", "5{}", "0{5{}}", "0{1{5{}}}", "!0", "!9", "7{!0}", "0{1{}!9}", "1{(b/)}", "(l/5{})", "0{(b/5{})}"};
        int[] ends = {0, 3, 3, 3, 1, 1, 1, 4, 4, 4, 4, 0, 1, 1};
        int[] rooms = {-1, -1, 0, 7, -1, 0, 1, -1, -1, 7, 0, -1, -1, 0};
        int[] numbers = {-1, -1, -1, -1, -1, -1, -1, 0, 9, 0, 9, -1, -1, -1};
        int[] ticks = {0, 1, 2, 3, 1, 2, 3, 1, 1, 2, 3, 3, 3, 4};
        int[] doors = {0, 0, 1, 2, 0, 1, 2, 0, 0, 1, 2, 1, 0, 1};
        int[] befell = {0, 1, 1, 1, 1, 1, 1, 1, 1, 1, 1, 1, 2, 2};
        for (int i = 0; i < texts.length; i++) {
            NightRounds x = with(texts[i]);
            x.sets(5, LOCK, 1);
            x.goes();
            dueRow("11: was of '" + texts[i] + "'", was(x), ends[i], rooms[i], numbers[i], 0, ticks[i], 0, doors[i], befell[i]);
        }
        NightRounds x = with("(((((l/k)/w)/b)/l)/!5)");
        x.goes();
        due("11: each that befell, once", x.was(7), 6);
        x = with("0{1{2{3{4{5{6{7{}}}}}}}}");
        x.goes();
        due("11: eight doors at a time", x.was(6), 8);
        x = with("0{}1{}2{}3{4{}}5{}");
        x.goes();
        due("11: two doors at a time", x.was(6), 2);
        x = with("[!9/]");
        x.often(3);
        due("11: the sum behind it, not of it", x.was(5), 27);
    }

    private static void promise11wasOfAReport() {
        String[] befalls = {"5{}", "6{w}", "b", "!0"};
        int[] rooms = {3, 6, 3, 3};
        for (int i = 0; i < befalls.length; i++) {
            NightRounds x = with("2{<3{<" + befalls[i] + ">}>}");
            x.sets(5, LOCK, 1);
            x.sets(6, SLEEP, 1);
            due("11: a report of '" + befalls[i] + "'", x.goes(), 5);
            due("11: where what lies behind all befell, of '" + befalls[i] + "'", x.was(1), rooms[i]);
            due("11: no number of it", x.was(2), -1);
            due("11: behind it", x.was(3), 2);
            due("11: befell", x.was(7), 3);
            due("11: its root", x.root(), i + 1);
        }
        NightRounds x = with("<<l>>");
        x.goes();
        due("11: a report of the hall", x.was(1), -1);
        text(x, "[<l>/0{!1}]");
        x.goes();
        dueRow("11: a report seen to lies behind nothing", was(x), 4, 0, 1, 0, 5, 1, 1, 3);
        text(x, "[<<l>>/<0{!1}>]");
        x.goes();
        due("11: only what lies behind this one", x.was(3), 1);
        text(x, "+");
        x.goes();
        due("11: no report, none behind it", x.was(3), 0);
    }

    private static void promise12root() {
        String[] texts = {"", "l", "0{w}", "7{}", "!1", "x9:+++++;", "<x9:+++++;>", "<>", "[<!1>/]", "[<!1>/l]", "(<!1>/)", "<7{}>", "<0{w}>", "<l>", "<!0>",
            "<<<<<<<<l>>>>>>>>", "<[<!1>/l]>", "<(l/!1)>"};
        int[] roots = {-1, -1, -1, -1, -1, -1, -1, -1, -1, -1, 4, 1, 2, 3, 4, 3, 3, 4};
        for (int i = 0; i < texts.length; i++) {
            NightRounds x = with(texts[i]);
            x.sets(7, LOCK, 3);
            x.sets(0, SLEEP, 9);
            x.goes();
            due("12: root of '" + texts[i] + "'", x.root(), roots[i]);
        }
        nothingChangesBy("12: root()", x -> x.root());
    }

    private static void promise13diary() {
        NightRounds x = new NightRounds();
        due("13: none", x.diary(-1), 0);
        due("13: the first of none", x.diary(0), -5);
        // 39 doors are the most that 40 ticks and 100 bytes allow.
        text(x, "0{}1{}7{}x9:2{}3{}4{}5{};");
        due("13: a long one", x.goes(), 0);
        due("13: how many", x.diary(-1), 78);
        due("13: the first", x.diary(0), 10);
        due("13: the last", x.diary(77), 25);
        due("13: behind the last", x.diary(78), -5);
        text(x, "6{}");
        x.goes();
        due("13: how many of the next", x.diary(-1), 2);
        due("13: the last of the next", x.diary(1), 26);
        due("13: nothing is left of the one before", x.diary(2), -5);
        int[] taken = {-1, 0, 1, 8, 77, 149, 150, 151, MOST};
        for (int k : taken) nothingChangesBy("13: diary(" + k + ")", y -> y.diary(k));
        int[] wrong = {LEAST, -150, -11, -10, -5, -3, -2};
        for (int k : wrong) bad("13: diary(" + k + ")", y -> y.diary(k), -10);
    }

    /** No round of 40 ticks opens so many doors: they are told to the object's own tale. */
    private static void promise13diaryHas150AtMost() throws Exception {
        NightRounds x = new NightRounds();
        Field last = NightRounds.class.getDeclaredField("last");
        last.setAccessible(true);
        Object tale = last.get(x);
        Method opened = tale.getClass().getDeclaredMethod("doorOpened", int.class);
        Method shut = tale.getClass().getDeclaredMethod("doorShut", int.class);
        opened.setAccessible(true);
        shut.setAccessible(true);
        for (int i = 1; i <= 160; i++) {
            (i % 2 == 1 ? opened : shut).invoke(tale, i % 8);
            if (i < 140) continue;
            due("13: of " + i + " entries", x.diary(-1), Math.min(i, 150));
            due("13: entry " + i, x.diary(i - 1), i > 150 ? -5 : (i % 2 == 1 ? 10 : 20) + i % 8);
        }
        due("13: the first is not lost", x.diary(0), 11);
        due("13: the 150th is the last", x.diary(149), 26);
        due("13: the 151st is left out", x.diary(150), -5);
        due("13: left out of the digest, too", x.digest(), digestOf(x));
    }

    private static void promise14open() {
        due("14: ahead of any round", new NightRounds().open(), 0);
        String[] texts = {"0{1{}}", "0{7{}}", "0{6{w}}", "0{b}", "0{!1}", "0{<!1>}", "0{1{x9:+++++;}}"};
        for (int i = 0; i < texts.length; i++) {
            NightRounds x = with(texts[i]);
            x.sets(7, LOCK, 1);
            x.sets(6, SLEEP, 1);
            due("14: '" + texts[i] + "'", x.goes(), i);
            due("14: open, behind end " + i, x.open(), 0);
            x.tries();
            due("14: open, behind a try " + i, x.open(), 0);
        }
        nothingChangesBy("14: open()", x -> x.open());
    }

    // ---- what would be

    private static void promise15fewest() {
        due("15: none needed", with("0{}").fewest(), 0);
        due("15: none would do", with("!1").fewest(), -1);
        int[] sets = {0, 2, 4, 8, 6, 10, 12, 14};
        for (int set : sets) {
            NightRounds x = with("1{}2{}3{}");
            for (int key = 1; key <= 3; key++) if ((set >> key & 1) != 0) x.sets(key, LOCK, key);
            due("15: just " + set, x.fewest(), set);
            x.keys(14 - set);
            due("15: whatever keys he has, " + set, x.fewest(), set);
        }
        NightRounds x = with("(1{}/(2{}/3{}))");
        for (int key = 1; key <= 3; key++) x.sets(key, LOCK, key);
        due("15: the least of three", x.fewest(), 2);
        text(x, "(2{}/3{})");
        due("15: the least of two", x.fewest(), 4);
        text(x, "(1{2{}}/(1{3{}}/2{3{}}))");
        due("15: the least of pairs", x.fewest(), 6);
        text(x, "(2{1{}}/3{1{}2{}})3{}");
        due("15: all", x.fewest(), 14);
        text(x, "(1{2{}}/3{})");
        due("15: one key rather than two", x.fewest(), 8);
        due("15: fault 0", with("}").fewest(), -10);
        due("15: fault 100", with(" ".repeat(99) + "0").fewest(), -110);
    }

    private static void promise16were() {
        int[] wrongRooms = {LEAST, -1, 8, MOST};
        for (int room : wrongRooms) bad("16: room " + room, x -> x.were(room, 0));
        int[] wrongKinds = {LEAST, -1, 5, MOST};
        for (int kind : wrongKinds) bad("16: kind " + kind, x -> x.were(0, kind));
        bad("16: both", x -> x.were(8, 5));
        int[] loud = {0, 2, 3, 2, 6};
        for (int room = 0; room < 8; room++) {
            for (int sleep = 1; sleep <= 9; sleep++) {
                NightRounds x = with(room + "{}");
                x.sets(room, SLEEP, sleep);
                for (int kind = 0; kind <= 4; kind++) {
                    due("16: were(" + room + ", " + kind + "), sleep " + sleep, x.were(room, kind), loud[kind] >= sleep ? 2 : 0);
                    due("16: another room", x.were(7 - room, kind), 0);
                }
                due("16: none refused", x.count(0), 0);
            }
        }
        due("16: fault 0", with("}").were(0, 0), -10);
        due("16: fault 100", with(" ".repeat(99) + "0").were(7, 4), -110);
    }

    private static void promise17cures() {
        int[] wrong = {LEAST, -1, 3, MOST};
        for (int sort : wrong) bad("17: cures(" + sort + ")", x -> x.cures(sort));
        for (int sort = 0; sort <= 2; sort++) {
            due("17: all of sort " + sort, with("").cures(sort), 255);
            due("17: none of sort " + sort, with("!1").cures(sort), 0);
        }
        for (int room = 0; room < 8; room++) {
            NightRounds x = with(room + "{}");
            x.sets(room, LOCK, 3);
            due("17: lock of " + room, x.cures(2), 1 << room);
            due("17: lock of " + room + " is no noise", x.cures(0) + x.cures(1), 0);
            x.sets(room, LOCK, 0);
            x.sets(room, KIND, 1);
            x.sets(room, SLEEP, 2);
            due("17: noise of " + room, x.cures(0), 1 << room);
            due("17: guest of " + room, x.cures(1), 1 << room);
            due("17: noise of " + room + " is no lock", x.cures(2), 0);
            x.sets(room, SLEEP, 3);
            due("17: sleeps deep enough", x.cures(0) + x.cures(1) + x.cures(2), 3 * 255);
            due("17: none refused", x.count(0), 0);
        }
        NightRounds x = with("0{}7{}");
        x.sets(0, LOCK, 1);
        x.sets(7, LOCK, 1);
        due("17: each alone", x.cures(2), 0);
        due("17: fault 0", with("}").cures(0), -10);
        due("17: fault 100", with(" ".repeat(99) + "0").cures(2), -110);
    }

    private static void promise18ends() {
        int[] wrong = {LEAST, -1, 7, MOST};
        for (int end : wrong) bad("18: ends(" + end + ")", x -> x.ends(end));
        String[] texts = {"+", "7{}", "6{w}", "b", "!1", "<!1>", "x9:+++++;"};
        int[][] ends = {{8, 0, 0, 0, 0, 0, 0}, {4, 4, 0, 0, 0, 0, 0}, {0, 0, 8, 0, 0, 0, 0}, {0, 0, 0, 8, 0, 0, 0}, {0, 0, 0, 0, 8, 0, 0},
            {0, 0, 0, 0, 0, 8, 0}, {0, 0, 0, 0, 0, 0, 8}};
        for (int i = 0; i < texts.length; i++) {
            NightRounds x = with(texts[i]);
            x.sets(7, LOCK, 1);
            x.sets(6, SLEEP, 1);
            for (int end = 0; end <= 6; end++) due("18: ends(" + end + ") of '" + texts[i] + "'", x.ends(end), ends[i][end]);
            due("18: none refused", x.count(0), 0);
        }
        NightRounds x = with("1{2{3{}}}");
        for (int key = 1; key <= 3; key++) x.sets(key, LOCK, key);
        due("18: only all of them", x.ends(0), 1);
        due("18: all but one", x.ends(1), 7);
        due("18: fault 0", with("}").ends(0), -10);
        due("18: fault 100", with(" ".repeat(99) + "0").ends(6), -110);
    }

    private static void promise19told() {
        int[] wrong = {LEAST, -1, 3, MOST};
        for (int what : wrong) bad("19: told(" + what + ")", x -> x.told(what));
        String[] texts = {"", "   ", "l", "0{}", "7{}", "0{1{2{3{4{5{6{7{}}}}}}}}", "!7", "x7:;", "(/)[/]<>", "x9:0{};", "(0{}/1{})", "0{0{}}0{}", "+".repeat(100)};
        int[] acts = {0, 0, 1, 1, 1, 8, 1, 1, 3, 2, 3, 3, 100};
        int[] depths = {0, 0, 0, 1, 1, 8, 0, 1, 1, 2, 2, 2, 0};
        int[] rooms = {0, 0, 0, 1, 128, 255, 0, 0, 0, 1, 3, 1, 0};
        for (int i = 0; i < texts.length; i++) {
            NightRounds x = with(texts[i]);
            due("19: acts of '" + texts[i] + "'", x.told(0), acts[i]);
            due("19: how deep '" + texts[i] + "' is", x.told(1), depths[i]);
            due("19: rooms of '" + texts[i] + "'", x.told(2), rooms[i]);
            due("19: none refused", x.count(0), 0);
        }
        NightRounds x = with("0{7{+}}");
        due("19: deep", x.told(1), 2);
        text(x, "!1");
        due("19: another text, its acts", x.told(0), 1);
        due("19: another text, how deep", x.told(1), 0);
        due("19: another text, its rooms", x.told(2), 0);
        for (int what = 0; what <= 2; what++) {
            due("19: fault 0", with("}").told(what), -10);
            due("19: fault 100", with("0" + " ".repeat(99)).told(what), -110);
        }
    }

    private static void whatWouldBeChangesNothing() {
        nothingChangesBy("15: fewest()", x -> x.fewest());
        for (int room = 0; room < 8; room++) {
            int r = room;
            for (int kind = 0; kind <= 4; kind++) {
                int k = kind;
                nothingChangesBy("16: were(" + r + ", " + k + ")", x -> x.were(r, k));
            }
        }
        for (int sort = 0; sort <= 2; sort++) {
            int s = sort;
            nothingChangesBy("17: cures(" + s + ")", x -> x.cures(s));
            nothingChangesBy("19: told(" + s + ")", x -> x.told(s));
        }
        for (int end = 0; end <= 6; end++) {
            int e = end;
            nothingChangesBy("18: ends(" + e + ")", x -> x.ends(e));
        }
    }

    // ---- what there is

    /** The document's words for X, with numbers big enough for none to be lost. */
    private static int[] drawn(int seed) {
        java.math.BigInteger x = java.math.BigInteger.valueOf(seed);
        int[] cells = new int[32];
        for (int room = 0; room < 8; room++) {
            x = x.multiply(java.math.BigInteger.valueOf(1103515245)).add(java.math.BigInteger.valueOf(12345)).mod(java.math.BigInteger.valueOf(2147483648L));
            long v = x.longValueExact();
            long lock = v / 1024 % 8;
            long hook = v / 4096 % 8;
            cells[room * 4] = (int) (v / 65536 % 5);
            cells[room * 4 + 1] = (int) (lock > 3 ? 0 : lock);
            cells[room * 4 + 2] = (int) (hook > 3 ? 0 : hook);
            cells[room * 4 + 3] = (int) (v / 16384 % 10);
        }
        return cells;
    }

    private static void promise20draw() {
        int[] wrong = {LEAST, -1, 1000000, MOST};
        for (int seed : wrong) bad("20: draw(" + seed + ")", x -> x.draw(seed));
        int[] most = new int[4];
        for (int i = 0; i <= 300; i++) {
            int seed = i < 150 ? i : 999999 - (300 - i);
            NightRounds x = new NightRounds();
            due("20: draw(" + seed + ")", x.draw(seed), 0);
            int[] cells = drawn(seed);
            for (int room = 0; room < 8; room++) {
                for (int what = 0; what < 4; what++) {
                    due("20: draw(" + seed + "), of(" + room + ", " + what + ")", x.of(room, what), cells[room * 4 + what]);
                    most[what] = Math.max(most[what], x.of(room, what));
                }
                due("20: asleep, lamps off, not opened", x.of(room, AWAKE) + x.of(room, LAMP) + x.of(room, OPENINGS), 0);
            }
            due("20: none refused", x.count(0), 0);
        }
        dueRow("20: the most that was drawn", most, 4, 3, 3, 9);
    }

    private static void promise20drawAllElseAsAtFirst() {
        for (int i = 0; i < HOUSES.length; i++) {
            NightRounds x = HOUSES[i].make();
            int[] before = seen(x);
            due("20: draw (" + HOUSE_NAMES[i] + ")", x.draw(7), 0);
            NightRounds y = new NightRounds();
            y.draw(7);
            for (int room = 0; room < 8; room++) dueRow("20: a room as drawn anew (" + HOUSE_NAMES[i] + ")", room(x, room), room(y, room));
            for (int what = 5; what <= 8; what++) due("20: as at first, count " + what, x.count(what), 0);
            int[] then = seen(x);
            for (int what = 0; what <= 3; what++) due("20: stays, count " + what, then[COUNTS + what], before[COUNTS + what]);
            due("20: N", then[NIGHTS], Math.min(before[NIGHTS] + 1, 8));
            dueRow("20: the text, the diary and what was stay", unlike(Arrays.copyOfRange(before, WAS, before.length), Arrays.copyOfRange(then, WAS, then.length)));
        }
    }

    private static NightRounds spent() {
        NightRounds x = livedIn();
        for (int i = 0; i < 5; i++) x.back();
        return x;
    }

    private static void promise21back() {
        refused("21: none (new)", NightRounds::new, x -> x.back(), -3, NOES);
        refused("21: none is left", PromiseEdgeTest::spent, x -> x.back(), -3, NOES);
        for (int nights = 1; nights <= 8; nights++) {
            NightRounds x = new NightRounds();
            for (int i = 0; i < nights; i++) x.keys(i * 2 % 16);
            for (int left = nights - 1; left >= 0; left--) {
                due("21: back of " + nights, x.back(), left);
                due("21: nights of " + nights, x.count(4), left);
                due("21: keys of " + nights, x.count(5), left == 0 ? 0 : (left - 1) * 2);
            }
            due("21: none refused yet", x.count(1), 0);
            due("21: none of " + nights, x.back(), -3);
            due("21: refused", x.count(1), 1);
            x.keys(14);
            due("21: one again", x.back(), 0);
        }
        NightRounds x = new NightRounds();
        x.keys(2);
        x.keys(4);
        x.back();
        x.keys(8);
        due("21: behind a night taken back", x.back(), 1);
        due("21: the other way is lost", x.count(5), 2);
    }

    private static void promise22count() {
        int[] wrong = {LEAST, -1, 9, MOST};
        for (int what : wrong) bad("22: count(" + what + ")", x -> x.count(what));
        for (int what = 0; what <= 8; what++) {
            int w = what;
            nothingChangesBy("22: count(" + what + ")", x -> x.count(w));
        }
        NightRounds x = new NightRounds();
        for (int i = 1; i <= 100; i++) {
            x.count(9);
            x.back();
            due("22: BAD " + i, x.count(0), i);
            due("22: NO " + i, x.count(1), i);
        }
        x = with(" ".repeat(99));
        for (int i = 0; i <= 100; i++) {
            x.type(' ');
            due("22: FULL " + i, x.count(2), i);
        }
        due("22: only FULL", x.count(0) + x.count(1), 0);
    }

    /** An object for each night: 512 calls are soon made. */
    private static void digestOfEachNight(int house) {
        int nights = HOUSES[house].make().count(4);
        for (int back = 1; back <= nights; back++) {
            NightRounds x = HOUSES[house].make();
            for (int i = 0; i < back; i++) x.back();
            due("23: digest " + back + " nights ago (" + HOUSE_NAMES[house] + ")", x.digest(), digestOf(x));
        }
    }

    private static void promise23digest() {
        nothingChangesBy("23: digest()", x -> x.digest());
        for (int i = 0; i < HOUSES.length; i++) {
            NightRounds x = HOUSES[i].make();
            due("23: digest (" + HOUSE_NAMES[i] + ")", x.digest(), digestOf(x));
            x.count(9);
            due("23: digest with one more refused (" + HOUSE_NAMES[i] + ")", x.digest(), digestOf(x));
            digestOfEachNight(i);
        }
        long h = 1973;
        for (int i = 0; i < 65; i++) h *= 31;
        // was() of a round of no acts: 0, NONE, NONE, 0, 0, 0, 0, 0; then none in the diary.
        h = 31 * h;
        h = 31 * h - 1;
        h = 31 * h - 1;
        for (int i = 0; i < 6; i++) h = 31 * h;
        due("23: ahead of any round", new NightRounds().digest(), h);
        NightRounds x = new NightRounds();
        x.tries();
        due("23: as of a round of no acts", x.digest(), h);
        x = with("0{}1{}7{}x9:2{}3{}4{}5{};");
        x.goes();
        due("23: with the longest diary", x.digest(), digestOf(x));
    }
}
