import java.lang.reflect.Field;

/** The boundary cases that the document's section "Terms" names, each sentence with a test of its own. */
public final class TermsEdgeTest extends Checks {
    private static final String BEGINNINGS = "01234567([<xlkwb+!";
    private static final String FIGURES = "0123456789";
    private static final String TIRING = "x9:+++++;";

    public static void main(String[] args) throws Exception {
        allIsZeroAtFirst();
        roomsAreZeroToSeven();
        openingsAreAtMost9999();
        sumGoesRoundAsIntsDo();
        kindsSayHowLoudADoorIs();
        aLockWantsItsOwnKey();
        lockedOpensNothing();
        guestsSleepSoDeepAndNoDeeper();
        nobodyIsWokenWhereNobodySleeps();
        aShuttingWakesNoneWhoSleptThroughTheOpening();
        doorsAreShutTheLastOneFirst();
        oneMayGoIntoARoomOneIsIn();
        theHallIsNoRoom();
        theRoomIsThatOneIsIn();
        lampsAreTurned();
        keysAreTakenOnce();
        guestsAreWokenOnce();
        listeningNeedsALamp();
        plusCountsDoorsAsOftenAsTheyAreOpen();
        alarmsAreZeroToNine();
        parenthesesSeeToLockedWokenDark();
        bracketsSeeToAlarmAndReport();
        reportsAreOfAllButTired();
        reportsOfReports();
        soOftenIsZeroToNine();
        actsMayBeNone();
        whatBefallsEndsTheActsAtOnce();
        fortyTicksAreNotTiring();
        eachActTakesATickWhenItBegins();
        theFortyFirstTickIsOfAnyAct();
        nothingIsDoneAboutTiredButShutting();
        blanksMayStandAnywhere();
        aTextHas100BytesAtMost();
        noTextIsARoundOfNoActs();
        faultIsTheFirstByteThatCanNotStand();
        faultIsTheLengthIfTheTextEndsTooEarly();
        eightMayLieWithinOneAnother();
        theNinthIsAFault();
        theNinthMayBeAnywhere();
        endsAreZeroToSix();
        end();
    }

    private static void goesTo(String what, String text, int ends) {
        due("Terms: " + what + " '" + text + "'", with(text).goes(), ends);
    }

    private static void allIsZeroAtFirst() {
        NightRounds x = new NightRounds();
        int[] row = new int[DIARY + 1];
        row[WAS + 1] = -1;
        row[WAS + 2] = -1;
        row[ROOT] = -1;
        dueRow("Terms: at first", seen(x), row);
    }

    private static void roomsAreZeroToSeven() {
        for (int room = 0; room < 8; room++) {
            NightRounds x = with(room + "{l}");
            NightRounds y = with(room + "{l}");
            due("Terms: room " + room, x.goes(), 0);
            dueRow("Terms: diary of room " + room, diary(x), 10 + room, 20 + room);
            dueRow("Terms: only room " + room, unlike(seen(x), seen(y)),
                cell(room, LAMP), cell(room, OPENINGS), NIGHTS, COUNTS + 8, WAS + 4, WAS + 6, DIARY, DIARY + 1, DIARY + 2);
        }
        goesTo("there is no room 8", "8{l}", -10);
        goesTo("there is no room 9", "9{l}", -10);
        goesTo("there is no room /", "/{l}", -10);
    }

    /** Room 0 with 9998 openings: 92 times 3 times 36, and 62 more. */
    private static NightRounds openedUpTo9998() {
        NightRounds x = with("x9:0{}0{}0{}0{};");
        for (int i = 0; i < 92; i++) x.often(3);
        x.goes();
        text(x, "x8:0{}0{}0{};");
        x.goes();
        text(x, "0{}0{}");
        x.goes();
        text(x, "0{}");
        return x;
    }

    private static void openingsAreAtMost9999() {
        NightRounds x = openedUpTo9998();
        x.sets(0, KIND, 2);
        due("Terms: 9998 openings", x.of(0, OPENINGS), 9998);
        due("Terms: loud with 9998", x.of(0, LOUD), 4);
        due("Terms: the 9999th", x.goes(), 0);
        due("Terms: 9999 openings", x.of(0, OPENINGS), 9999);
        due("Terms: loud with 9999", x.of(0, LOUD), 2);
        // With one opening more the door would be 3 loud, and the guest woken.
        x.sets(0, SLEEP, 3);
        due("Terms: opened yet again", x.goes(), 0);
        due("Terms: 9999 at most", x.of(0, OPENINGS), 9999);
        due("Terms: loud with 9999 yet", x.of(0, LOUD), 2);
        dueRow("Terms: it was opened all the same", diary(x), 10, 20);
        dueRow("Terms: and that is told", was(x), 0, -1, -1, 0, 1, 0, 1, 0);
        due("Terms: others have none", x.of(1, OPENINGS), 0);
        x.sets(0, SLEEP, 2);
        due("Terms: as loud as with 9999", x.goes(), 2);
        x.back();
        x.back();
        x.back();
        x.back();
        due("Terms: a night with 9998", x.back() >= 0 ? x.of(0, OPENINGS) : 0, 9998);
    }

    /** No 512 calls make the sum so big: it is put into the object. */
    private static void setSum(NightRounds x, int sum) throws Exception {
        Field house = NightRounds.class.getDeclaredField("house");
        house.setAccessible(true);
        Field cells = house.get(x).getClass().getDeclaredField("cells");
        cells.setAccessible(true);
        Field place = NightRounds.class.getDeclaredField("SUM_CELL");
        place.setAccessible(true);
        ((int[]) cells.get(house.get(x)))[place.getInt(null)] = sum;
    }

    private static void sumGoesRoundAsIntsDo() throws Exception {
        NightRounds x = with("0{+}");
        setSum(x, Integer.MAX_VALUE - 1);
        x.goes();
        due("Terms: sum at its most", x.count(6), Integer.MAX_VALUE);
        x.goes();
        due("Terms: sum gone round", x.count(6), Integer.MIN_VALUE);
        due("Terms: sum gone round, behind it", x.was(5), Integer.MIN_VALUE);
        due("Terms: digest of it", x.digest(), digestOf(x));
        String[] more = {"[!9/]", "[<<l>>/]", "0{lb}"};
        int[] by = {9, 2, 7};
        for (int i = 0; i < more.length; i++) {
            x = with(more[i]);
            x.sets(0, SLEEP, 7);
            setSum(x, Integer.MAX_VALUE);
            due("Terms: goes round by " + more[i], x.goes(), 0);
            due("Terms: gone round by " + more[i], x.count(6), Integer.MIN_VALUE + by[i] - 1);
            x.back();
            due("Terms: not gone round a night ago", x.count(6), Integer.MAX_VALUE);
        }
    }

    private static void kindsSayHowLoudADoorIs() {
        int[][] loud = {
            {0, 0, 0, 0, 0, 0, 0}, {2, 2, 2, 2, 2, 2, 2}, {2, 3, 4, 2, 3, 4, 2}, {2, 2, 2, 0, 0, 0, 0}, {4, 6, 8, 4, 6, 8, 4}};
        NightRounds x = with("3{}");
        for (int o = 0; o <= 6; o++) {
            for (int kind = 0; kind <= 4; kind++) {
                x.sets(3, KIND, kind);
                due("Terms: how loud kind " + kind + " is with " + o + " openings", x.of(3, LOUD), loud[kind][o]);
            }
            x.goes();
        }
    }

    private static void aLockWantsItsOwnKey() {
        for (int lock = 0; lock <= 3; lock++) {
            for (int set = 0; set <= 14; set += 2) {
                NightRounds x = with("5{}");
                x.sets(5, LOCK, lock);
                x.keys(set);
                boolean opens = lock == 0 || lock == 1 && (set == 2 || set == 6 || set == 10 || set == 14)
                    || lock == 2 && (set == 4 || set == 6 || set == 12 || set == 14) || lock == 3 && set >= 8;
                due("Terms: lock " + lock + " with keys " + set, x.goes(), opens ? 0 : 1);
                due("Terms: the lock stays", x.of(5, LOCK), lock);
                due("Terms: the keys stay", x.count(5), set);
            }
        }
    }

    private static void lockedOpensNothing() {
        NightRounds x = with("(5{l}/)");
        x.sets(5, LOCK, 1);
        x.sets(5, KIND, 4);
        x.sets(5, SLEEP, 1);
        due("Terms: locked", x.goes(), 0);
        dueRow("Terms: locked opens nothing", room(x, 5), 4, 1, 0, 1, 0, 0, 0, 4);
        dueRow("Terms: locked was", was(x), 0, -1, -1, 0, 2, 0, 0, 1);
        due("Terms: locked diary", x.diary(-1), 0);
    }

    /** A house whose door of room 3 was opened so often, ahead of anyone sleeping there. */
    private static NightRounds opened(String text, int kind, int openings, int sleep) {
        NightRounds x = with("3{}");
        for (int i = 0; i < openings; i++) x.goes();
        text(x, text);
        x.sets(3, KIND, kind);
        x.sets(3, SLEEP, sleep);
        return x;
    }

    private static void guestsSleepSoDeepAndNoDeeper() {
        int[][] loud = {{0, 0, 0, 0, 0}, {2, 2, 2, 2, 2}, {3, 4, 2, 3, 4}, {2, 2, 0, 0, 0}, {6, 8, 4, 6, 8}};
        for (int kind = 0; kind <= 4; kind++) {
            for (int o = 0; o < 5; o++) {
                for (int sleep = 0; sleep <= 9; sleep++) {
                    NightRounds x = opened("3{l}", kind, o, sleep);
                    boolean woken = sleep > 0 && loud[kind][o] >= sleep;
                    String what = "Terms: kind " + kind + " opened behind " + o + ", sleep " + sleep;
                    due(what, x.goes(), woken ? 2 : 0);
                    due(what + ": awake", x.of(3, AWAKE), woken ? 1 : 0);
                    due(what + ": acts done", x.of(3, LAMP), woken ? 0 : 1);
                    due(what + ": opened", x.of(3, OPENINGS), o + 1);
                    dueRow(what + ": shut", diary(x), 13, 23);
                    due(what + ": room", x.was(1), woken ? 3 : -1);
                    due(what + ": befell", x.was(7), woken ? 1 : 0);
                    if (woken) due(what + ": awake already", x.goes(), 0);
                }
            }
        }
    }

    private static void nobodyIsWokenWhereNobodySleeps() {
        NightRounds x = opened("3{}", 0, 0, 0);
        due("Terms: a quiet door, no guest", x.goes(), 0);
        due("Terms: no guest is awake", x.count(7), 0);
        x = opened("3{}", 0, 0, 1);
        due("Terms: a quiet door, sleep 1", x.goes(), 0);
        x = opened("3{}", 4, 1, 9);
        due("Terms: the loudest door, sleep 9", x.goes(), 0);
        x = opened("(3{w}/)3{}", 4, 0, 7);
        due("Terms: an awake guest is not woken", x.goes(), 0);
        due("Terms: but once", x.was(7), 1);
    }

    private static void aShuttingWakesNoneWhoSleptThroughTheOpening() {
        // One less than the opening's noise, and the guest sleeps one deeper than that: nothing is so near.
        NightRounds x = opened("3{3{3{}}}", 2, 0, 5);
        due("Terms: shut thrice", x.goes(), 0);
        due("Terms: none awake", x.of(3, AWAKE), 0);
        dueRow("Terms: shut thrice diary", diary(x), 13, 13, 13, 23, 23, 23);
        x = opened("3{3{}}", 4, 0, 7);
        due("Terms: woken within", x.goes(), 2);
        due("Terms: nothing befalls by shutting", x.was(7), 1);
        dueRow("Terms: woken within diary", diary(x), 13, 13, 23, 23);
    }

    private static void doorsAreShutTheLastOneFirst() {
        String[] befalls = {"", "7{}", "6{w}", "b", "!1", "<!1>", TIRING};
        for (int i = 0; i < befalls.length; i++) {
            NightRounds x = with("0{1{2{" + befalls[i] + "}}}");
            x.sets(7, LOCK, 1);
            x.sets(6, SLEEP, 1);
            due("Terms: within three doors '" + befalls[i] + "'", x.goes(), i);
            if (i == 2) {
                dueRow("Terms: shut whatever befell " + i, diary(x), 10, 11, 12, 16, 26, 22, 21, 20);
            } else {
                dueRow("Terms: shut whatever befell " + i, diary(x), 10, 11, 12, 22, 21, 20);
            }
            due("Terms: open then " + i, x.open(), 0);
        }
    }

    private static void oneMayGoIntoARoomOneIsIn() {
        NightRounds x = with("4{4{l+}+}");
        due("Terms: a room within itself", x.goes(), 0);
        due("Terms: opened twice", x.of(4, OPENINGS), 2);
        due("Terms: its lamp is one", x.of(4, LAMP), 1);
        dueRow("Terms: twice open", was(x), 0, -1, -1, 0, 5, 3, 2, 0);
        dueRow("Terms: twice in the diary", diary(x), 14, 14, 24, 24);
        x = with("4{4{4{4{4{4{4{4{+}}}}}}}}");
        due("Terms: eight times", x.goes(), 0);
        dueRow("Terms: eight times open", was(x), 0, -1, -1, 0, 9, 8, 8, 0);
        due("Terms: eight times opened", x.of(4, OPENINGS), 8);
    }

    private static void theHallIsNoRoom() {
        for (char c : "lkwb".toCharArray()) {
            String[] inTheHall = {"" + c, "0{}" + c, "<" + c + ">", "(!1/" + c + ")", "x1:" + c + ";", "[" + c + "/]", "([!1/" + c + "]/k)"};
            int[] ends = {3, 3, 5, 4, 3, 3, 3};
            for (int i = 0; i < inTheHall.length; i++) {
                NightRounds x = with(inTheHall[i]);
                x.sets(0, SLEEP, 1);
                x.sets(0, HOOK, 1);
                due("Terms: in the hall '" + inTheHall[i] + "'", x.goes(), ends[i]);
                due("Terms: the hall is NONE", x.was(1), -1);
                dueRow("Terms: nothing is done there", room(x, 0), 0, 0, 1, 1, 0, 0, i == 1 ? 1 : 0, 0);
            }
        }
        goesTo("+ in the hall", "+", 0);
        goesTo("! in the hall", "!0", 4);
    }

    private static void theRoomIsThatOneIsIn() {
        String[] texts = {"2{(b/)}", "2{(!1/l)}", "2{5{}l}", "2{[!1/l]}", "2{x1:l;}", "2{[<5{k!1}>/l]}", "5{2{l}}", "2{(5{b}/l)}"};
        int[] lamps = {0, 0, 1, 1, 1, 1, 1, 1};
        for (int i = 0; i < texts.length; i++) {
            NightRounds x = with(texts[i]);
            x.goes();
            due("Terms: lamp of 2 by '" + texts[i] + "'", x.of(2, LAMP), lamps[i]);
            due("Terms: lamp of 5 by '" + texts[i] + "'", x.of(5, LAMP), 0);
        }
    }

    private static void lampsAreTurned() {
        NightRounds x = with("7{l}");
        for (int i = 1; i <= 4; i++) {
            x.goes();
            due("Terms: the lamp turned " + i + " times", x.of(7, LAMP), i % 2);
            due("Terms: lamps on", x.count(8), i % 2);
        }
    }

    private static void keysAreTakenOnce() {
        for (int hook = 0; hook <= 3; hook++) {
            for (int set = 0; set <= 14; set += 2) {
                NightRounds x = with("1{kk}");
                x.sets(1, HOOK, hook);
                x.keys(set);
                due("Terms: k of hook " + hook, x.goes(), 0);
                due("Terms: the hook has none then", x.of(1, HOOK), 0);
                due("Terms: keys " + set + " and hook " + hook, x.count(5), hook == 0 ? set : set | 1 << hook);
            }
        }
    }

    private static void guestsAreWokenOnce() {
        for (int sleep = 0; sleep <= 9; sleep++) {
            NightRounds x = with("1{w}");
            x.sets(1, SLEEP, sleep);
            due("Terms: w with sleep " + sleep, x.goes(), sleep == 0 ? 0 : 2);
            due("Terms: w awake", x.of(1, AWAKE), sleep == 0 ? 0 : 1);
            due("Terms: w again", x.goes(), 0);
            due("Terms: w awake yet", x.count(7), sleep == 0 ? 0 : 1);
        }
    }

    private static void listeningNeedsALamp() {
        for (int sleep = 0; sleep <= 9; sleep++) {
            NightRounds x = with("1{lb}");
            x.sets(1, SLEEP, sleep);
            due("Terms: b", x.goes(), 0);
            due("Terms: b of sleep " + sleep, x.count(6), sleep);
            due("Terms: b leaves him asleep", x.of(1, AWAKE), 0);
            text(x, "1{b}");
            x.goes();
            due("Terms: b again", x.count(6), 2 * sleep);
            text(x, "1{lb}");
            due("Terms: b with the lamp off", x.goes(), 3);
            due("Terms: b in the dark adds nothing", x.count(6), 2 * sleep);
            text(x, "1{(w/)lb}");
            due("Terms: b of one awake", x.goes(), 0);
            due("Terms: b of one awake adds nothing", x.count(6), 2 * sleep);
        }
    }

    private static void plusCountsDoorsAsOftenAsTheyAreOpen() {
        String[] texts = {"+", "0{}+", "0{+}", "0{1{+}}", "0{0{+}}", "0{1{}+}", "0{1{0{+}}}", "(0{l!1}/)+", "[0{!0}/+]", "(0{b}/+)"};
        int[] sums = {0, 0, 1, 2, 2, 1, 3, 0, 0, 0};
        for (int i = 0; i < texts.length; i++) {
            NightRounds x = with(texts[i]);
            x.goes();
            due("Terms: sum by '" + texts[i] + "'", x.count(6), sums[i]);
        }
    }

    private static void alarmsAreZeroToNine() {
        for (int n = 0; n <= 9; n++) {
            NightRounds x = with("!" + n + "+");
            due("Terms: alarm " + n, x.goes(), 4);
            dueRow("Terms: was of alarm " + n, was(x), 4, -1, n, 0, 1, 0, 0, 1);
            x = with("[!" + n + "/]");
            due("Terms: alarm heard " + n, x.goes(), 0);
            due("Terms: sum of alarm " + n, x.count(6), n);
        }
        goesTo("an alarm has a figure", "!/", -11);
        goesTo("an alarm has a figure", "!:", -11);
        goesTo("an alarm has one figure", "!10", -13);
    }

    /** What befalls, numbered as the ends, within the text where the sign ? stands; then what was. */
    private static NightRounds befallen(String text, int end) {
        String[] befalls = {"+", "7{}", "6{w}", "k", "!5", "<!5>", TIRING};
        NightRounds x = with(text.replace("?", befalls[end]));
        x.sets(7, LOCK, 1);
        x.sets(6, SLEEP, 1);
        x.goes();
        return x;
    }

    private static void parenthesesSeeToLockedWokenDark() {
        for (int end = 0; end <= 6; end++) {
            boolean seenTo = end >= 1 && end <= 3;
            NightRounds x = befallen("(?/!9)", end);
            due("Terms: ( of " + end, x.was(0), seenTo ? 4 : end);
            due("Terms: ( of " + end + " alarm", x.was(2), seenTo ? 9 : end == 4 ? 5 : -1);
            x = befallen("(?/)!8", end);
            due("Terms: behind ( of " + end, x.was(0), end <= 3 ? 4 : end);
            due("Terms: behind ( of " + end + " alarm", x.was(2), end <= 3 ? 8 : end == 4 ? 5 : -1);
            due("Terms: ( adds nothing", x.count(6), 0);
            x = befallen("(l/?)", end);
            due("Terms: in the second of ( " + end, x.was(0), end);
        }
    }

    private static void bracketsSeeToAlarmAndReport() {
        for (int end = 0; end <= 6; end++) {
            boolean seenTo = end == 4 || end == 5;
            NightRounds x = befallen("[?/!9]", end);
            due("Terms: [ of " + end, x.was(0), seenTo ? 4 : end);
            due("Terms: [ of " + end + " alarm", x.was(2), seenTo ? 9 : -1);
            due("Terms: [ of " + end + " sum", x.count(6), end == 4 ? 5 : end == 5 ? 1 : 0);
            x = befallen("[?/]!8", end);
            due("Terms: behind [ of " + end, x.was(0), seenTo || end == 0 ? 4 : end);
            due("Terms: behind [ of " + end + " alarm", x.was(2), seenTo || end == 0 ? 8 : -1);
            x = befallen("[!0/?]", end);
            due("Terms: in the second of [ " + end, x.was(0), end);
            due("Terms: in the second of [ nothing is heard", x.count(6), 0);
        }
    }

    private static void reportsAreOfAllButTired() {
        for (int end = 0; end <= 6; end++) {
            NightRounds x = befallen("<?>", end);
            boolean reported = end >= 1 && end <= 5;
            due("Terms: < of " + end, x.was(0), reported ? 5 : end);
            due("Terms: < of " + end + " behind it", x.was(3), end == 5 ? 2 : reported ? 1 : 0);
            due("Terms: < of " + end + " root", x.root(), end == 5 ? 4 : reported ? end : -1);
            due("Terms: < of " + end + " number", x.was(2), -1);
            x = befallen("<?>!8", end);
            due("Terms: behind < of " + end, x.was(0), end == 0 ? 4 : reported ? 5 : end);
        }
    }

    private static void reportsOfReports() {
        String open = "";
        String shut = "";
        for (int behind = 1; behind <= 8; behind++) {
            open += "<";
            shut += ">";
            NightRounds x = with(open + "!9" + shut);
            due("Terms: reports " + behind, x.goes(), 5);
            due("Terms: behind it " + behind, x.was(3), behind);
            due("Terms: befell " + behind, x.was(7), behind + 1);
            if (behind < 8) {
                x = with("[" + open + "!9" + shut + "/]");
                due("Terms: reports heard " + behind, x.goes(), 0);
                due("Terms: sum of reports " + behind, x.count(6), behind);
            }
        }
    }

    private static void soOftenIsZeroToNine() {
        for (int n = 0; n <= 9; n++) {
            NightRounds x = with("0{x" + n + ":+;}");
            due("Terms: x" + n, x.goes(), 0);
            due("Terms: x" + n + " so often", x.count(6), n);
            due("Terms: x" + n + " ticks", x.was(4), 2 + n);
        }
        goesTo("x has a figure", "x:;", -11);
        goesTo("x has a figure", "x/:;", -11);
        goesTo("x has one figure", "x10:;", -12);
    }

    private static void actsMayBeNone() {
        String[] texts = {"", " ", "0{}", "(/)", "(+/)", "(/+)", "[/]", "[+/]", "[/+]", "<>", "x9:;", "x0:;"};
        int[] ticks = {0, 0, 1, 1, 2, 1, 1, 2, 1, 1, 1, 1};
        for (int i = 0; i < texts.length; i++) {
            NightRounds x = with(texts[i]);
            due("Terms: none in '" + texts[i] + "'", x.goes(), 0);
            due("Terms: ticks of '" + texts[i] + "'", x.was(4), ticks[i]);
        }
        NightRounds x = with("(l/)[!0/]");
        due("Terms: no second ones", x.goes(), 0);
        due("Terms: no second ones befell", x.was(7), 2);
    }

    private static void whatBefallsEndsTheActsAtOnce() {
        String[] texts = {"0{!1l}", "0{(b l/)}", "0{[!1l/]}", "0{<!1l>}", "0{x2:!1l;}", "0{<!1>l}", "0{(!1/)l}", "0{[b/]l}", "0{x1:!1;l}"};
        for (String text : texts) {
            NightRounds x = with(text);
            x.goes();
            due("Terms: the lamp by '" + text + "'", x.of(0, LAMP), 0);
            due("Terms: shut by '" + text + "'", x.diary(1), 20);
        }
    }

    private static void fortyTicksAreNotTiring() {
        NightRounds x = new NightRounds();
        for (int i = 1; i <= 40; i++) {
            x.type('+');
            due("Terms: ticks " + i, x.tries(), 0);
            due("Terms: ticks " + i + " told", x.was(4), i);
        }
        x.type('+');
        due("Terms: the 41st tick", x.tries(), 6);
        dueRow("Terms: the 41st tick was", was(x), 6, -1, -1, 0, 40, 0, 0, 1);
        x.type('+');
        due("Terms: the 42nd is not begun", x.tries(), 6);
        dueRow("Terms: the 42nd is not begun was", was(x), 6, -1, -1, 0, 40, 0, 0, 1);
        due("Terms: each round has 40", x.often(3), 0);
        text(x, "x9:++++;+++");
        due("Terms: each round has its own 40", x.often(3), 3);
        due("Terms: each round has its own 40 ticks", x.was(4), 40);
    }

    private static void eachActTakesATickWhenItBegins() {
        String[] acts = {"0{l}", "0{k}", "0{w}", "0{(b/)}", "+", "[!1/]", "(/)", "[/]", "<>", "x0:+;", "x9:;", "x2:+;", "x2:x0:;;", "0{}", "(l/+)", "<!1>"};
        int[] ticks = {2, 2, 2, 3, 1, 2, 1, 1, 1, 1, 1, 3, 3, 1, 3, 2};
        for (int i = 0; i < acts.length; i++) {
            NightRounds x = with(acts[i]);
            x.goes();
            due("Terms: ticks of '" + acts[i] + "'", x.was(4), ticks[i]);
        }
        NightRounds x = with("0{}");
        x.sets(0, LOCK, 1);
        x.goes();
        due("Terms: a locked door takes a tick", x.was(4), 1);
        x = with("l+");
        x.goes();
        due("Terms: what is not begun takes none", x.was(4), 1);
    }

    private static void theFortyFirstTickIsOfAnyAct() {
        String[] acts = {"l", "k", "w", "b", "+", "!1", "0{}", "(/)", "[/]", "<>", "x0:;"};
        int[] ends = {3, 3, 3, 3, 0, 4, 0, 0, 0, 0, 0};
        for (int i = 0; i < acts.length; i++) {
            NightRounds x = with("x9:++++;++" + acts[i]);
            due("Terms: the 40th is '" + acts[i] + "'", x.goes(), ends[i]);
            due("Terms: the 40th '" + acts[i] + "' told", x.was(4), 40);
            x = with("x9:++++;+++" + acts[i]);
            due("Terms: the 41st is '" + acts[i] + "'", x.goes(), 6);
            dueRow("Terms: the 41st '" + acts[i] + "' is not done", was(x), 6, -1, -1, 0, 40, 0, 0, 1);
            due("Terms: the 41st '" + acts[i] + "' opens nothing", x.of(0, OPENINGS), 0);
        }
    }

    private static void nothingIsDoneAboutTiredButShutting() {
        String[] around = {"(?/+)", "[?/+]", "<?>", "x1:?;", "3{?}", "(l/?)", "[!0/?]", "(<[?/]>/)"};
        for (String text : around) {
            NightRounds x = with(text.replace("?", TIRING) + "!1");
            due("Terms: tired in '" + text + "'", x.goes(), 6);
            due("Terms: tired in '" + text + "' ticks", x.was(4), 40);
            due("Terms: tired in '" + text + "' number", x.was(2), -1);
            due("Terms: tired in '" + text + "' behind", x.was(3), 0);
            due("Terms: tired in '" + text + "' root", x.root(), -1);
            due("Terms: tired in '" + text + "' room", x.was(1), text.equals("3{?}") ? 3 : -1);
            due("Terms: tired in '" + text + "' befell", x.was(7), text.indexOf('l') >= 0 || text.indexOf('!') >= 0 ? 2 : 1);
        }
        NightRounds x = with("3{4{" + TIRING + "}}");
        due("Terms: tired within doors", x.goes(), 6);
        dueRow("Terms: tired shuts them", diary(x), 13, 14, 24, 23);
        // 38 ticks and one that befalls: one act of the second ones is done, the next is ahead of the 41st tick.
        x = with("3{(x9:+++;++++++++b/l+)}");
        due("Terms: tired in the second", x.goes(), 6);
        due("Terms: tired in the second, the lamp", x.of(3, LAMP), 1);
        due("Terms: tired in the second, the room", x.was(1), 3);
    }

    private static void blanksMayStandAnywhere() {
        String tight = "x2:0{(b/[l!3/<b>])+};";
        for (int at = 0; at <= tight.length(); at++) {
            NightRounds x = with(tight.substring(0, at) + "  " + tight.substring(at));
            due("Terms: blanks at " + at, x.told(0), 10);
            due("Terms: blanks at " + at + " goes", x.goes(), 0);
            dueRow("Terms: blanks at " + at + " was", was(x), 0, -1, -1, 0, 14, 5, 1, 2);
        }
        String[] none = {"\t", "\n", "\r", "\u0000", "\u001f", "\u007f", "_"};
        for (String c : none) goesTo("no blank but 32", "+" + c + "+", -11);
        goesTo("blanks count as places", "   )", -13);
    }

    private static String blanks(int n) {
        return " ".repeat(n);
    }

    private static void aTextHas100BytesAtMost() {
        NightRounds x = new NightRounds();
        for (int i = 1; i <= 100; i++) due("Terms: byte " + i, x.type(' '), i);
        due("Terms: byte 101", x.type(' '), -4);
        due("Terms: 100 bytes", x.count(3), 100);
        due("Terms: 100 blanks are no acts", x.goes(), 0);
        x = with(blanks(97) + "0{}");
        due("Terms: the 100th byte is read", x.goes(), 0);
        due("Terms: the 100th byte shuts", x.diary(-1), 2);
        x = with(blanks(98) + "0{}");
        due("Terms: the 101st byte is not there", x.goes(), -110);
        due("Terms: nor counted", x.count(3), 100);
        x = with("+".repeat(100));
        due("Terms: 100 acts", x.told(0), 100);
        due("Terms: 100 acts are tiring", x.goes(), 6);
        x = with("0{}".repeat(33) + "+");
        due("Terms: 33 rooms in 100 bytes", x.goes(), 0);
        due("Terms: 33 rooms opened", x.of(0, OPENINGS), 33);
        due("Terms: 33 rooms in the diary", x.diary(-1), 66);
        due("Terms: the last of the 33", x.diary(65), 20);
    }

    private static void noTextIsARoundOfNoActs() {
        NightRounds x = new NightRounds();
        due("Terms: no text goes", x.goes(), 0);
        due("Terms: no text tries", x.tries(), 0);
        due("Terms: no text often", x.often(3), 3);
        due("Terms: no text fewest", x.fewest(), 0);
        due("Terms: no text were", x.were(7, 4), 0);
        due("Terms: no text cures", x.cures(0), 255);
        due("Terms: no text ends", x.ends(0), 8);
        for (int i = 0; i < 3; i++) due("Terms: no text told " + i, x.told(i), 0);
        dueRow("Terms: no text was", was(x), 0, -1, -1, 0, 0, 0, 0, 0);
        due("Terms: no text diary", x.diary(-1), 0);
        due("Terms: no text is a night all the same", x.count(4), 2);
        text(x, "0{+!1}");
        x.goes();
        x.clear();
        due("Terms: text cleared", x.goes(), 0);
        dueRow("Terms: text cleared was", was(x), 0, -1, -1, 0, 0, 1, 0, 0);
        due("Terms: text cleared diary", x.diary(-1), 0);
    }

    /** Of all 128 bytes just these (and a blank) can stand behind the beginning. */
    private static void standBehind(String beginning, String can) {
        int at = beginning.length();
        for (int c = 0; c <= 127; c++) {
            String text = beginning + (char) c;
            int told = with(text).told(0);
            String what = "Terms: byte " + c + " behind '" + beginning + "'";
            if (c == ' ' || can.indexOf(c) >= 0) {
                due(what + " can stand", told >= 0 || told == -10 - (at + 1) ? 1 : 0, 1);
            } else {
                due(what, told, -10 - at);
                due(what + " and more", with(text + "0{}").told(0), -10 - at);
                due(what + " goes", with(text).goes(), -10 - at);
            }
        }
    }

    private static void faultIsTheFirstByteThatCanNotStand() {
        standBehind("", BEGINNINGS);
        standBehind("l", BEGINNINGS);
        standBehind("0", "{");
        standBehind("7 ", "{");
        standBehind("0{", BEGINNINGS + "}");
        standBehind("0{}", BEGINNINGS);
        standBehind("(", BEGINNINGS + "/");
        standBehind("(+", BEGINNINGS + "/");
        standBehind("(/", BEGINNINGS + ")");
        standBehind("(/)", BEGINNINGS);
        standBehind("[", BEGINNINGS + "/");
        standBehind("[/", BEGINNINGS + "]");
        standBehind("[/+", BEGINNINGS + "]");
        standBehind("<", BEGINNINGS + ">");
        standBehind("<>", BEGINNINGS);
        standBehind("x", FIGURES);
        standBehind("x9", ":");
        standBehind("x0:", BEGINNINGS + ";");
        standBehind("x0:;", BEGINNINGS);
        standBehind("!", FIGURES);
        standBehind("!9", BEGINNINGS);
        standBehind("(0{", BEGINNINGS + "}");
        standBehind("[<x1:", BEGINNINGS + ";");
        standBehind("0{(/[/", BEGINNINGS + "]");
        standBehind("<<<<<<<<", "lkwb+!>");
        standBehind("0{0{0{0{0{0{0{0{", "lkwb+!}");
        standBehind("(/(/(/(/(/(/(/(/", "lkwb+!)");
    }

    private static void faultIsTheLengthIfTheTextEndsTooEarly() {
        String[] early = {"0", "0{", "(", "(/", "(+", "[", "[/", "<", "x", "x1", "x1:", "!", "0{1{", "0{1{}", "(0{}/<>", "+0"};
        for (String text : early) {
            for (int more = 0; more <= 3; more++) {
                String whole = text + blanks(more);
                goesTo("ends too early", whole, -10 - whole.length());
                whole = blanks(more) + text;
                goesTo("ends too early", whole, -10 - whole.length());
            }
            goesTo("ends too early with 100", blanks(100 - text.length()) + text, -110);
            goesTo("ends too early with 100", text + blanks(100 - text.length()), -110);
        }
        goesTo("the 100th can not stand", blanks(99) + ")", -109);
        goesTo("the first can not stand", ")" + blanks(99), -10);
    }

    private static final String[] OPENERS = {"3{", "(", "(/", "[", "[/", "<", "x1:"};
    private static final String[] SHUTTERS = {"}", "/)", ")", "/]", "]", ">", ";"};

    /** So many of one form within one another, and what is in the innermost. */
    private static String nested(int form, int times, String inner) {
        return OPENERS[form].repeat(times) + inner + SHUTTERS[form].repeat(times);
    }

    private static void eightMayLieWithinOneAnother() {
        for (int form = 0; form < OPENERS.length; form++) {
            for (int times = 0; times <= 8; times++) {
                NightRounds x = with(nested(form, times, "+"));
                due("Terms: within one another " + times + " " + OPENERS[form], x.goes(), 0);
                due("Terms: how deep " + times + " " + OPENERS[form], x.told(1), times);
                due("Terms: acts " + times + " " + OPENERS[form], x.told(0), times + 1);
            }
            String twice = nested(form, 8, "") + nested(form, 8, "");
            due("Terms: eight and again eight " + OPENERS[form], with(twice).told(1), 8);
            due("Terms: eight and again eight acts " + OPENERS[form], with(twice).told(0), 16);
            NightRounds x = with(nested(form, 7, nested(form, 1, "") + nested(form, 1, "")));
            due("Terms: two eighths side by side " + OPENERS[form], x.told(1), 8);
        }
        due("Terms: nine side by side", with("<>".repeat(9)).told(1), 1);
        due("Terms: ! is not one of them", with("<<<<<<<<!1>>>>>>>>").told(1), 8);
    }

    private static void theNinthIsAFault() {
        for (int outer = 0; outer < OPENERS.length; outer++) {
            for (int ninth = 0; ninth < OPENERS.length; ninth++) {
                int place = 8 * OPENERS[outer].length();
                String whole = nested(outer, 8, nested(ninth, 1, "+"));
                due("Terms: the ninth in '" + whole + "'", with(whole).goes(), -10 - place);
                whole = nested(outer, 8, " l " + nested(ninth, 1, "+"));
                due("Terms: the ninth in '" + whole + "'", with(whole).goes(), -10 - place - 3);
                whole = nested(outer, 7, nested(ninth, 2, "+"));
                due("Terms: the ninth in '" + whole + "'", with(whole).goes(), -10 - 7 * OPENERS[outer].length() - OPENERS[ninth].length());
                due("Terms: the eighth in '" + whole + "'", with(nested(outer, 7, nested(ninth, 1, "+"))).goes(), 0);
            }
        }
        due("Terms: of a room its figure", with("<<<<<<<<  6  {}>>>>>>>>").goes(), -20);
        due("Terms: of an x its x", with("<<<<<<<<  x  1:;>>>>>>>>").goes(), -20);
    }

    private static void theNinthMayBeAnywhere() {
        String mixed = "0{([<x1:1{(/[/";
        due("Terms: eight mixed", with(mixed + "+])};>/]/)}").told(1), 8);
        due("Terms: nine mixed", with(mixed + "<>])};>/]/)}").told(1), -10 - mixed.length());
        due("Terms: behind eight all is well", with("<<<<<<<<>>>>>>>><").told(0), -27);
        due("Terms: the fault ahead of the ninth counts", with("<<<<<<<<)<").told(0), -18);
        due("Terms: the ninth counts ahead of a later fault", with("<<<<<<<<<)").told(0), -18);
    }

    private static void endsAreZeroToSix() {
        for (int end = 0; end <= 6; end++) {
            NightRounds x = befallen("?", end);
            due("Terms: ends " + end, x.was(0), end);
            due("Terms: goes ends " + end, x.tries() == x.was(0) ? 1 : 0, 1);
        }
    }
}
