import java.util.Arrays;

/** Each promise of the document by its own words: ordinary inputs, the edges that it names, wrong inputs. */
public final class PromiseTest extends Checks {
    public static void main(String[] args) {
        promise01newObject();
        promise02sets();
        promise03of();
        promise03openingsStopAt9999();
        promise04keys();
        promise05dusk();
        promise06type();
        promise07clear();
        promise08goesIntoRooms();
        promise08goesInRooms();
        promise08goesInTheHall();
        promise08goesElse();
        promise08goesHearing();
        promise08goesReporting();
        promise08goesSoOften();
        promise08goesTired();
        promise08faults();
        promise08faultsOfDepth();
        promise09tries();
        promise10often();
        promise11was();
        promise12root();
        promise13diary();
        promise14open();
        promise15fewest();
        promise16were();
        promise17cures();
        promise18ends();
        promise19told();
        promise20draw();
        promise21back();
        promise22count();
        promise23digest();
        farNumbersAreBad();
        end();
    }

    private static void promise01newObject() {
        NightRounds x = new NightRounds();
        for (int room = 0; room < 8; room++) dueRow("1 room " + room, room(x, room), 0, 0, 0, 0, 0, 0, 0, 0);
        for (int i = 0; i < 9; i++) due("1 count(" + i + ")", x.count(i), 0);
        dueRow("1 was", was(x), 0, -1, -1, 0, 0, 0, 0, 0);
        due("1 diary", x.diary(-1), 0);
        due("1 root", x.root(), -1);
        due("1 open", x.open(), 0);
        due("1 told", x.told(0), 0);
    }

    private static void promise02sets() {
        NightRounds x = new NightRounds();
        int[] most = {4, 3, 3, 9};
        for (int what = 0; what < 4; what++) {
            due("2 most", x.sets(7, what, most[what]), 0);
            due("2 again", x.sets(7, what, 1), most[what]);
            due("2 above", x.sets(7, what, most[what] + 1), -2);
            due("2 below", x.sets(7, what, -1), -2);
            due("2 stays", x.of(7, what), 1);
            due("2 other room", x.of(6, what), 0);
        }
        due("2 nights", x.count(4), 8);
        due("2 what 4", x.sets(0, 4, 0), -2);
        due("2 what -1", x.sets(0, -1, 0), -2);
        due("2 room 8", x.sets(8, 0, 0), -2);
        due("2 room -1", x.sets(-1, 0, 0), -2);
        due("2 bads", x.count(0), 12);
        due("2 nights stay", x.count(4), 8);

        text(x, "(5{w}/)");
        x.sets(5, SLEEP, 3);
        x.goes();
        due("2 awake", x.of(5, AWAKE), 1);
        x.sets(5, KIND, 1);
        due("2 a kind wakes none nor lulls", x.of(5, AWAKE), 1);
        due("2 sleep again", x.sets(5, SLEEP, 3), 3);
        due("2 asleep then", x.of(5, AWAKE), 0);
        x.goes();
        due("2 gone", x.sets(5, SLEEP, 0), 3);
        due("2 no guest is not awake", x.of(5, AWAKE), 0);
        due("2 none awake", x.count(7), 0);
    }

    private static void promise03of() {
        NightRounds x = new NightRounds();
        x.sets(3, KIND, 4);
        x.sets(3, LOCK, 2);
        x.sets(3, HOOK, 3);
        x.sets(3, SLEEP, 9);
        dueRow("3 of", room(x, 3), 4, 2, 3, 9, 0, 0, 0, 4);
        x.keys(4);
        text(x, "3{lw}");
        x.goes();
        dueRow("3 of awake", room(x, 3), 4, 2, 3, 9, 1, 1, 1, 6);
        due("3 what 8", x.of(0, 8), -2);
        due("3 what -1", x.of(0, -1), -2);
        due("3 room 8", x.of(8, 0), -2);
        due("3 room -1", x.of(-1, 0), -2);
        due("3 bads", x.count(0), 4);
        int[][] loud = {{0, 0, 0, 0, 0}, {2, 2, 2, 2, 2}, {2, 3, 4, 2, 3}, {2, 2, 2, 0, 0}, {4, 6, 8, 4, 6}};
        for (int kind = 0; kind < 5; kind++) {
            NightRounds y = with("6{}");
            y.sets(6, KIND, kind);
            for (int o = 0; o < 5; o++) {
                due("3 kind " + kind + " openings " + o, y.of(6, LOUD), loud[kind][o]);
                y.goes();
            }
        }
    }

    private static void promise03openingsStopAt9999() {
        NightRounds x = with("x9:0{}0{}0{}0{};");
        for (int i = 0; i < 92; i++) x.often(3);
        due("3 openings", x.of(0, OPENINGS), 9936);
        x.goes();
        due("3 openings yet", x.of(0, OPENINGS), 9972);
        x.goes();
        due("3 openings at most", x.of(0, OPENINGS), 9999);
        x.goes();
        due("3 openings stay", x.of(0, OPENINGS), 9999);
        x.sets(0, KIND, 2);
        due("3 loud with 9999", x.of(0, LOUD), 2);
    }

    private static void promise04keys() {
        NightRounds x = new NightRounds();
        int before = 0;
        for (int set = 0; set <= 14; set += 2) {
            due("4 keys", x.keys(set), before);
            due("4 count", x.count(5), set);
            due("4 odd", x.keys(set + 1), -2);
            before = set;
        }
        due("4 nights", x.count(4), 8);
        due("4 16", x.keys(16), -2);
        due("4 -2", x.keys(-2), -2);
        due("4 bads", x.count(0), 10);
        due("4 stay", x.count(5), 14);
        x.back();
        due("4 N", x.count(5), 12);
    }

    private static void promise05dusk() {
        NightRounds x = with("(0{lw}/)(1{lw}/)2{l}");
        x.sets(0, SLEEP, 1);
        x.sets(1, SLEEP, 9);
        x.goes();
        due("5 awake", x.count(7), 2);
        due("5 lamps", x.count(8), 3);
        due("5 dusk", x.dusk(), 2);
        due("5 asleep", x.count(7), 0);
        due("5 lamps off", x.count(8), 0);
        due("5 sleep stays", x.of(1, SLEEP), 9);
        due("5 openings stay", x.of(1, OPENINGS), 1);
        due("5 again", x.dusk(), 0);
        due("5 nights", x.count(4), 5);
        x.back();
        x.back();
        due("5 N", x.count(7), 2);
        due("5 N lamps", x.count(8), 3);
    }

    private static void promise06type() {
        NightRounds x = new NightRounds();
        due("6 -1", x.type(-1), -2);
        due("6 128", x.type(128), -2);
        due("6 0", x.type(0), 1);
        due("6 127", x.type(127), 2);
        due("6 a wrong byte is a fault", x.tries(), -10);
        x.clear();
        for (int i = 1; i <= 100; i++) due("6 type", x.type('+'), i);
        due("6 full", x.type('+'), -4);
        due("6 bad ahead of full", x.type(128), -2);
        due("6 bytes", x.count(3), 100);
        due("6 fulls", x.count(2), 1);
        due("6 bads", x.count(0), 3);
        due("6 no night", x.count(4), 0);
        due("6 acts", x.told(0), 100);
    }

    private static void promise07clear() {
        NightRounds x = with("0{l}");
        due("7 clear", x.clear(), 4);
        due("7 bytes", x.count(3), 0);
        due("7 again", x.clear(), 0);
        due("7 no night", x.count(4), 0);
        due("7 no acts", x.goes(), 0);
        due("7 nothing gone", x.was(4), 0);
    }

    private static void promise08goesIntoRooms() {
        NightRounds x = with("0{1{+}+}+");
        due("8 goes", x.goes(), 0);
        dueRow("8 was", was(x), 0, -1, -1, 0, 5, 3, 2, 0);
        dueRow("8 diary", diary(x), 10, 11, 21, 20);
        due("8 openings", x.of(0, OPENINGS), 1);
        due("8 N", x.count(4), 1);

        x = with("1{2{}}");
        x.sets(2, LOCK, 3);
        due("8 locked", x.goes(), 1);
        dueRow("8 locked was", was(x), 1, 1, -1, 0, 2, 0, 1, 1);
        dueRow("8 locked diary", diary(x), 11, 21);
        due("8 locked is not opened", x.of(2, OPENINGS), 0);
        x.keys(6);
        due("8 other keys", x.goes(), 1);
        x.keys(8);
        due("8 the key", x.goes(), 0);
        due("8 opened", x.of(2, OPENINGS), 1);

        // Groaning is 6 loud at the first opening, and 5 at its shutting.
        x = with("4{l}");
        x.sets(4, KIND, 4);
        x.sets(4, SLEEP, 6);
        due("8 woken", x.goes(), 2);
        dueRow("8 woken was", was(x), 2, 4, -1, 0, 1, 0, 1, 1);
        dueRow("8 woken diary", diary(x), 14, 24);
        due("8 nothing done", x.of(4, LAMP), 0);
        due("8 awake already", x.goes(), 0);
        x = with("4{}");
        x.sets(4, KIND, 4);
        x.sets(4, SLEEP, 7);
        due("8 sleeps deeper", x.goes(), 0);
        due("8 not woken", x.of(4, AWAKE), 0);
        due("8 second opening", x.goes(), 2);

        // Within itself the swollen door is 4 loud at the second opening.
        x = with("5{5{}}");
        x.sets(5, KIND, 2);
        x.sets(5, SLEEP, 5);
        due("8 twice", x.goes(), 0);
        dueRow("8 twice diary", diary(x), 15, 15, 25, 25);
        due("8 not shut awake", x.of(5, AWAKE), 0);
        x = with("(5{5{}}/)");
        x.sets(5, KIND, 2);
        x.sets(5, SLEEP, 4);
        due("8 woken within", x.goes(), 0);
        due("8 befell once", x.was(7), 1);

        x = with("6{}6{}");
        x.sets(6, KIND, 2);
        x.sets(6, SLEEP, 4);
        due("8 opening wakes at 4", x.goes(), 2);
        dueRow("8 end at once", diary(x), 16, 26, 16, 26);
    }

    private static void promise08goesInRooms() {
        NightRounds x = with("2{lbl}");
        x.sets(2, SLEEP, 7);
        due("8 b", x.goes(), 0);
        due("8 b sum", x.was(5), 7);
        due("8 lamp off again", x.of(2, LAMP), 0);
        text(x, "2{b}");
        due("8 b dark", x.goes(), 3);
        dueRow("8 b dark was", was(x), 3, 2, -1, 0, 2, 7, 1, 1);
        text(x, "2{(w/)lb}");
        due("8 b awake", x.goes(), 0);
        due("8 b awake sum", x.count(6), 7);
        text(x, "2{w}");
        due("8 w awake", x.goes(), 0);
        text(x, "3{wk}");
        due("8 w without a guest", x.goes(), 0);
        due("8 k without a key", x.count(5), 0);
        x.sets(3, HOOK, 1);
        x.sets(4, HOOK, 3);
        x.keys(4);
        text(x, "3{k}4{k}3{k}");
        due("8 k", x.goes(), 0);
        due("8 k keys", x.count(5), 14);
        due("8 k hook", x.of(3, HOOK), 0);
        due("8 k hook 4", x.of(4, HOOK), 0);
        text(x, "2{w}");
        x.dusk();
        due("8 w", x.goes(), 2);
        dueRow("8 w was", was(x), 2, 2, -1, 0, 2, 7, 1, 1);
        due("8 w awake", x.of(2, AWAKE), 1);
        text(x, "7{!4}");
        due("8 !", x.goes(), 4);
        dueRow("8 ! was", was(x), 4, 7, 4, 0, 2, 7, 1, 1);
    }

    private static void promise08goesInTheHall() {
        for (char c : "lkwb".toCharArray()) {
            NightRounds x = with("+" + c + "+");
            due("8 hall " + c, x.goes(), 3);
            dueRow("8 hall was " + c, was(x), 3, -1, -1, 0, 2, 0, 0, 1);
        }
        NightRounds x = with("0{}b");
        due("8 hall again", x.goes(), 3);
        due("8 hall room", x.was(1), -1);
        x = with("1{2{}b}");
        due("8 outer room again", x.goes(), 3);
        due("8 outer room", x.was(1), 1);
    }

    private static void promise08goesElse() {
        NightRounds x = with("1{(lb!1/+)}");
        due("8 ( alarm", x.goes(), 4);
        due("8 ( alarm sum", x.was(5), 0);
        x = with("1{(b+/+l)+}");
        due("8 ( dark", x.goes(), 0);
        dueRow("8 ( dark was", was(x), 0, -1, -1, 0, 6, 2, 1, 1);
        due("8 ( lamp", x.of(1, LAMP), 1);
        x = with("(l/!7)");
        due("8 ( in the second", x.goes(), 4);
        dueRow("8 ( in the second was", was(x), 4, -1, 7, 0, 3, 0, 0, 2);
        x = with("((l/k)/0{+})");
        due("8 ( in (", x.goes(), 0);
        due("8 ( in ( befell", x.was(7), 2);
        due("8 ( in ( sum", x.was(5), 1);
        x = with("(0{}/!1)");
        due("8 ( first only", x.goes(), 0);
        x.sets(0, LOCK, 1);
        due("8 ( locked", x.goes(), 4);
        x = with("(<l>/+)");
        due("8 ( report", x.goes(), 5);
        x = with("(+/!1)!2");
        due("8 ( goes on", x.goes(), 4);
        due("8 ( goes on to 2", x.was(2), 2);
        x = with("(!1/)!2");
        due("8 ( alarm ends all around", x.goes(), 4);
        due("8 ( alarm 1", x.was(2), 1);
        x = with("(l/(l/(l/(l/(l/(l/(l/(l/!1))))))))");
        due("8 ( eight deep", x.goes(), 4);
        due("8 ( eight deep befell", x.was(7), 9);
        x = with("1{(0{2{l}!3}/)}");
        due("8 ( shut all", x.goes(), 4);
        dueRow("8 ( shut all diary", diary(x), 11, 10, 12, 22, 20, 21);
    }

    private static void promise08goesHearing() {
        NightRounds x = with("1{[!5+/+]}");
        due("8 [ alarm", x.goes(), 0);
        dueRow("8 [ was", was(x), 0, -1, -1, 0, 4, 6, 1, 1);
        x = with("[!0/]");
        due("8 [ alarm 0", x.goes(), 0);
        due("8 [ alarm 0 sum", x.was(5), 0);
        x = with("[<<<!9>>>/l]");
        due("8 [ report", x.goes(), 3);
        dueRow("8 [ report was", was(x), 3, -1, -1, 0, 6, 3, 0, 5);
        due("8 [ report root", x.root(), -1);
        x = with("[l/+]");
        due("8 [ dark", x.goes(), 3);
        x = with("[[!1/!2]/!3]");
        due("8 [ in [", x.goes(), 4);
        dueRow("8 [ in [ was", was(x), 4, -1, 3, 0, 5, 3, 0, 3);
        x = with("[0{1{!6}}/+]");
        due("8 [ shut ahead of the second", x.goes(), 0);
        due("8 [ sum", x.was(5), 6);
        x = with("[+/!1]!2");
        due("8 [ first only", x.goes(), 4);
        dueRow("8 [ first only was", was(x), 4, -1, 2, 0, 3, 0, 0, 1);
        x = with("[l/+]!2");
        due("8 [ dark ends all around", x.goes(), 3);
        x = with("[x2:x9:++++;;/+]!2");
        due("8 [ tired ends all around", x.goes(), 6);
    }

    private static void promise08goesReporting() {
        NightRounds x = with("3{<b>}");
        due("8 < dark", x.goes(), 5);
        dueRow("8 < dark was", was(x), 5, 3, -1, 1, 3, 0, 1, 2);
        due("8 < dark root", x.root(), 3);
        x = with("<2{<!8>}>");
        due("8 < alarm", x.goes(), 5);
        dueRow("8 < alarm was", was(x), 5, 2, -1, 2, 4, 0, 1, 3);
        due("8 < alarm root", x.root(), 4);
        x = with("<2{l}>");
        due("8 < nothing", x.goes(), 0);
        x.sets(2, LOCK, 1);
        due("8 < locked", x.goes(), 5);
        due("8 < locked root", x.root(), 1);
        due("8 < locked room", x.was(1), -1);
        x = with("<+>!2");
        due("8 < goes on", x.goes(), 4);
        x = with("<!1>!2");
        due("8 < ends all around", x.goes(), 5);
        due("8 < befell", x.was(7), 2);
        x = with("<(l/<!1>)>");
        due("8 < behind the second", x.goes(), 5);
        due("8 < behind", x.was(3), 2);
        due("8 < behind befell", x.was(7), 4);
    }

    private static void promise08goesSoOften() {
        NightRounds x = with("x0:l;");
        due("8 x0", x.goes(), 0);
        due("8 x0 ticks", x.was(4), 1);
        x = with("1{x9:+;}");
        due("8 x9", x.goes(), 0);
        due("8 x9 sum", x.was(5), 9);
        due("8 x9 ticks", x.was(4), 11);
        x = with("0{x5:l!2;}");
        due("8 x ends", x.goes(), 4);
        due("8 x ends at once", x.was(4), 4);
        x = with("x2:!1;!2");
        due("8 x ends all around", x.goes(), 4);
        due("8 x ends all around with 1", x.was(2), 1);
        x = with("x2:+;!2");
        due("8 x goes on", x.goes(), 4);
        x = with("x3:x3:;;");
        due("8 x in x", x.goes(), 0);
        due("8 x in x ticks", x.was(4), 4);
    }

    private static void promise08goesTired() {
        NightRounds x = with("x9:++++;++");
        due("8 39 ticks", x.goes(), 0);
        due("8 39", x.was(4), 39);
        x.type('+');
        due("8 40 ticks", x.goes(), 0);
        due("8 40", x.was(4), 40);
        x.type('+');
        due("8 41 ticks", x.goes(), 6);
        dueRow("8 tired was", was(x), 6, -1, -1, 0, 40, 0, 0, 1);
        x = with("(<[3{x9:l++++;}/+]>/+)");
        due("8 tired is let be", x.goes(), 6);
        dueRow("8 tired is let be was", was(x), 6, 3, -1, 0, 40, 28, 1, 1);
        dueRow("8 tired shuts", diary(x), 13, 23);
        due("8 tired root", x.root(), -1);
        due("8 lamp", x.of(3, LAMP), 1);
        x = with("x9:x9:;x9:;x9:;x9:;x9:;;");
        due("8 tired of empty ones", x.goes(), 6);
    }

    private static void promise08faults() {
        String[] texts = {"0", "0{", "8{}", "9", "{", "}", "l}", "( ", "(/", "(l)", "(/]", "[/)", "[//]", "<", "<)", "x", "x3",
            "x3:", "x3;", "x:;", "xl:;", "x12:;", "!", "!!", "!a", "! ", "0l", "00{}", "0 { l", "L", "l/", ":", ";", ">", "]", ")",
            "0{1}", "0{}}", "ll?", " ", "0{}8", "(0/)", "!12", "a", "R", "\t"};
        int[] faults = {1, 2, 0, 0, 0, 0, 1, 2, 2, 2, 2, 2, 2, 1, 1, 1, 2,
            3, 2, 1, 1, 2, 1, 1, 1, 2, 1, 1, 5, 0, 1, 0, 0, 0, 0, 0,
            3, 3, 2, -1, 3, 2, 3, 0, 0, 0};
        for (int i = 0; i < texts.length; i++) {
            NightRounds x = with(texts[i]);
            int answer = faults[i] < 0 ? 0 : -10 - faults[i];
            due("8 fault of '" + texts[i] + "'", x.goes(), answer);
            due("8 nights of '" + texts[i] + "'", x.count(4), answer == 0 ? 1 : 0);
        }
        NightRounds x = with("0{l}");
        x.goes();
        long digest = x.digest();
        x.type('}');
        x.type('}');
        due("8 fault", x.goes(), -14);
        x.clear();
        text(x, "0{l}");
        due("8 by a fault all stays", x.digest(), digest);
        text(x, " x 2 : 0 { ( + / ) } ; ! 5 ");
        due("8 blanks", x.goes(), 4);
        due("8 blanks sum", x.was(5), 2);
    }

    private static void promise08faultsOfDepth() {
        due("8 eight <", with("<<<<<<<<l>>>>>>>>").tries(), 5);
        due("8 nine <", with("<<<<<<<<<l>>>>>>>>>").tries(), -18);
        due("8 eight rooms", with("0{0{0{0{0{0{0{0{+}}}}}}}}").tries(), 0);
        due("8 nine rooms", with("0{0{0{0{0{0{0{0{ 7{+}}}}}}}}}").tries(), -27);
        due("8 nine x", with("((((((((x1:;/)/)/)/)/)/)/)/)").tries(), -18);
        due("8 nine (", with("[[[[[[[[(/)/]/]/]/]/]/]/]/]").tries(), -18);
        due("8 nine [", with("((((((((l[/]/)/)/)/)/)/)/)/)").tries(), -19);
        due("8 nine in the second", with("((((((((/<>)/)/)/)/)/)/)/)").tries(), -19);
        due("8 nine figure alone", with("<<<<<<<<0").tries(), -18);
        due("8 acts in the eighth", with("<<<<<<<<lkwb+!1>>>>>>>>").told(0), 14);
    }

    private static void promise09tries() {
        NightRounds x = with("0{lk!3}");
        x.sets(0, HOOK, 2);
        due("9 tries", x.tries(), 4);
        dueRow("9 was", was(x), 4, 0, 3, 0, 4, 0, 1, 1);
        dueRow("9 diary", diary(x), 10, 20);
        dueRow("9 room stays", room(x, 0), 0, 0, 2, 0, 0, 0, 0, 0);
        due("9 keys stay", x.count(5), 0);
        due("9 no night", x.count(4), 1);
        text(x, "0{+}");
        x.tries();
        due("9 sum behind it", x.was(5), 1);
        due("9 sum stays", x.count(6), 0);
        x.sets(0, LOCK, 1);
        due("9 as the house is now", x.tries(), 1);
        x.sets(0, LOCK, 0);
        due("9 as the house is then", x.tries(), 0);
        text(x, "0{");
        due("9 fault", x.tries(), -12);
        due("9 fault was stays", x.was(5), 1);
    }

    private static void promise10often() {
        NightRounds x = with("0{+l}");
        due("10 often 3", x.often(3), 3);
        due("10 sum", x.count(6), 3);
        due("10 openings", x.of(0, OPENINGS), 3);
        due("10 one night", x.count(4), 1);
        dueRow("10 was of the last", was(x), 0, -1, -1, 0, 3, 3, 1, 0);
        dueRow("10 diary of the last", diary(x), 10, 20);
        x.back();
        due("10 N", x.of(0, OPENINGS), 0);
        due("10 often 1", x.often(1), 1);
        due("10 often 2", x.often(2), 2);
        due("10 0", x.often(0), -2);
        due("10 4", x.often(4), -2);
        due("10 bads", x.count(0), 2);
        x = with("1{}");
        x.sets(1, KIND, 2);
        x.sets(1, SLEEP, 4);
        due("10 the second wakes", x.often(3), 1);
        due("10 openings then", x.of(1, OPENINGS), 2);
        due("10 ended", x.was(0), 2);
        x = with("l");
        due("10 none", x.often(2), 0);
        due("10 N all the same", x.count(4), 1);
        x = with("(");
        due("10 fault", x.often(2), -11);
        due("10 bad ahead of a fault", x.often(4), -2);
        due("10 no night", x.count(4), 0);
    }

    private static void promise11was() {
        NightRounds x = with("2{(1{}/)[!6/]<3{!2}>}");
        x.sets(1, LOCK, 1);
        x.goes();
        dueRow("11 was", was(x), 5, 3, -1, 1, 8, 6, 2, 4);
        due("11 8", x.was(8), -2);
        due("11 -1", x.was(-1), -2);
        due("11 bads", x.count(0), 2);
        text(x, "0{0{0{}}1{}}");
        x.goes();
        due("11 most open", x.was(6), 3);
        text(x, "4{1{}}");
        x.goes();
        dueRow("11 locked", was(x), 1, 4, -1, 0, 2, 6, 1, 1);
        x.back();
        due("11 was stays when a night is taken back", x.was(0), 1);
    }

    private static void promise12root() {
        NightRounds x = with("<1{}>");
        x.sets(1, LOCK, 1);
        x.goes();
        due("12 locked", x.root(), 1);
        text(x, "<<2{w}>>");
        x.sets(2, SLEEP, 1);
        x.goes();
        due("12 woken", x.root(), 2);
        text(x, "<<<k>>>");
        x.goes();
        due("12 dark", x.root(), 3);
        text(x, "<!0>");
        x.goes();
        due("12 alarm", x.root(), 4);
        text(x, "!0");
        x.goes();
        due("12 otherwise", x.root(), -1);
        text(x, "[<!0>/]");
        x.goes();
        due("12 heard", x.root(), -1);
        text(x, "[<!0>/l]");
        x.goes();
        due("12 dark behind a heard report", x.root(), -1);
    }

    private static void promise13diary() {
        NightRounds x = with("7{0{}}3{}");
        due("13 none yet", x.diary(0), -5);
        x.goes();
        due("13 how many", x.diary(-1), 6);
        dueRow("13 diary", diary(x), 17, 10, 20, 27, 13, 23);
        due("13 not so many", x.diary(6), -5);
        due("13 far", x.diary(Integer.MAX_VALUE), -5);
        due("13 bads", x.count(0), 0);
        due("13 bad", x.diary(-2), -10);
        due("13 bad far", x.diary(Integer.MIN_VALUE), -10);
        due("13 bads counted", x.count(0), 2);
        text(x, "x9:0{}1{}2{}3{};++");
        x.goes();
        due("13 many", x.diary(-1), 72);
        text(x, "5{}");
        x.goes();
        dueRow("13 anew", diary(x), 15, 25);
        x.fewest();
        x.were(0, 0);
        x.cures(0);
        x.ends(0);
        x.told(0);
        x.draw(1);
        x.back();
        dueRow("13 stays", diary(x), 15, 25);
    }

    private static void promise14open() {
        NightRounds x = with("1{2{2{!1}}}");
        x.goes();
        due("14 alarm", x.open(), 0);
        text(x, "1{2{x9:+++++;}}");
        x.goes();
        due("14 tired", x.open(), 0);
    }

    private static void promise15fewest() {
        NightRounds x = with("1{}2{}");
        due("15 none needed", x.fewest(), 0);
        x.keys(14);
        due("15 whatever he has", x.fewest(), 0);
        x.sets(1, LOCK, 3);
        due("15 key 3", x.fewest(), 8);
        x.sets(2, LOCK, 2);
        due("15 keys 2 and 3", x.fewest(), 12);
        text(x, "(1{}/2{})");
        due("15 the least of like ones", x.fewest(), 4);
        text(x, "3{(1{}!1/)(2{}!1/)1{}}");
        due("15 none would do", x.fewest(), -1);
        // Key 3 alone does where keys 1 and 2 together would, too: fewer beats less.
        text(x, "(1{}/4{5{}})");
        x.sets(4, LOCK, 1);
        x.sets(5, LOCK, 2);
        due("15 fewer beats less", x.fewest(), 8);
        text(x, "1{}2{}3{}");
        int[] like = {0, 2, 4, 8, 6, 10, 12, 14};
        for (int set : like) {
            for (int key = 1; key <= 3; key++) x.sets(key, LOCK, (set >> key & 1) == 0 ? 0 : key);
            due("15 just the set", x.fewest(), set);
        }
        due("15 keys stay", x.count(5), 14);
        due("15 openings stay", x.of(1, OPENINGS), 0);
        text(x, "(");
        due("15 fault", x.fewest(), -11);
    }

    private static void promise16were() {
        NightRounds x = with("2{}");
        x.sets(2, SLEEP, 3);
        int[] ends = {0, 0, 2, 0, 2};
        for (int kind = 0; kind < 5; kind++) due("16 kind " + kind, x.were(2, kind), ends[kind]);
        due("16 kind stays", x.of(2, KIND), 0);
        due("16 asleep yet", x.of(2, AWAKE), 0);
        due("16 another room", x.were(3, 4), 0);
        x.sets(2, SLEEP, 2);
        due("16 creaky", x.were(2, 1), 2);
        due("16 kind 5", x.were(0, 5), -2);
        due("16 kind -1", x.were(0, -1), -2);
        due("16 room 8", x.were(8, 0), -2);
        due("16 room -1", x.were(-1, 0), -2);
        due("16 bads", x.count(0), 4);
        text(x, "2");
        due("16 fault", x.were(2, 0), -11);
        due("16 bad ahead of a fault", x.were(8, 0), -2);
    }

    private static void promise17cures() {
        NightRounds x = with("1{}3{}");
        for (int sort = 0; sort < 3; sort++) due("17 well anyway", x.cures(sort), 255);
        x.sets(1, KIND, 1);
        x.sets(1, SLEEP, 2);
        due("17 quiet", x.cures(0), 2);
        due("17 gone", x.cures(1), 2);
        due("17 no lock", x.cures(2), 0);
        x.sets(3, LOCK, 1);
        due("17 one is not enough", x.cures(0) + x.cures(1) + x.cures(2), 0);
        x.sets(1, SLEEP, 0);
        due("17 no lock 3", x.cures(2), 8);
        due("17 quiet does not unlock", x.cures(0), 0);
        due("17 stays", x.of(3, LOCK), 1);
        // With a guest gone nobody is woken by w, and nothing is heard by b.
        text(x, "4{w}");
        x.sets(4, SLEEP, 5);
        due("17 w", x.cures(1), 16);
        due("17 3", x.cures(3), -2);
        due("17 -1", x.cures(-1), -2);
        due("17 bads", x.count(0), 2);
        text(x, "4{");
        due("17 fault", x.cures(0), -12);
        due("17 bad ahead of a fault", x.cures(3), -2);
    }

    private static void promise18ends() {
        NightRounds x = with("(1{!1}/)2{}x9:3{++++};");
        x.sets(1, LOCK, 1);
        x.sets(2, LOCK, 2);
        int[] ends = {0, 2, 0, 0, 4, 0, 2};
        for (int end = 0; end < 7; end++) due("18 end " + end, x.ends(end), ends[end]);
        text(x, "<2{}>");
        due("18 reports", x.ends(5), 4);
        due("18 well", x.ends(0), 4);
        text(x, "2{}2{w}");
        x.sets(2, SLEEP, 1);
        due("18 woken", x.ends(2), 4);
        text(x, "2{b}");
        due("18 dark", x.ends(3), 4);
        due("18 keys stay", x.count(5), 0);
        due("18 7", x.ends(7), -2);
        due("18 -1", x.ends(-1), -2);
        due("18 bads", x.count(0), 2);
        text(x, "!");
        due("18 fault", x.ends(0), -11);
        due("18 bad ahead of a fault", x.ends(7), -2);
    }

    private static void promise19told() {
        NightRounds x = with("0{l}(k/7{<b>})x2:+;!1");
        due("19 acts", x.told(0), 10);
        due("19 depth", x.told(1), 3);
        due("19 rooms", x.told(2), 129);
        text(x, "x5:1{};");
        due("19 acts are told once", x.told(0), 2);
        due("19 x is deep", x.told(1), 2);
        due("19 the room of an x is not its figure", x.told(2), 2);
        text(x, "!7");
        due("19 an alarm is not deep", x.told(1), 0);
        due("19 an alarm is no room", x.told(2), 0);
        text(x, "[/<>]<>");
        due("19 second ones are within", x.told(1), 2);
        x.clear();
        for (int what = 0; what < 3; what++) due("19 empty", x.told(what), 0);
        due("19 3", x.told(3), -2);
        due("19 -1", x.told(-1), -2);
        due("19 bads", x.count(0), 2);
        text(x, "<");
        due("19 fault", x.told(2), -11);
        due("19 bad ahead of a fault", x.told(3), -2);
        due("19 no night", x.count(4), 0);
    }

    private static void promise20draw() {
        NightRounds x = with("(0{lw}/)[!5/]");
        x.sets(0, SLEEP, 3);
        x.keys(10);
        x.goes();
        x.sets(9, 9, 9);
        due("20 draw 0", x.draw(0), 0);
        drawnAs(x, 0);
        due("20 draw", x.draw(31415), 0);
        drawnAs(x, 31415);
        due("20 keys", x.count(5), 0);
        due("20 sum", x.count(6), 0);
        due("20 text stays", x.count(3), 13);
        due("20 diary stays", x.diary(-1), 2);
        due("20 was stays", x.was(5), 5);
        due("20 bads stay", x.count(0), 1);
        due("20 N", x.count(4), 5);
        x.back();
        x.back();
        due("20 back", x.count(6), 5);
        due("20 seed at most", x.draw(999999), 0);
        drawnAs(x, 999999);
        due("20 1000000", x.draw(1000000), -2);
        due("20 -1", x.draw(-1), -2);
        due("20 bads", x.count(0), 3);
    }

    private static void drawnAs(NightRounds x, int seed) {
        long drawn = seed;
        for (int room = 0; room < 8; room++) {
            drawn = (drawn * 1103515245L + 12345L) & 0x7fffffffL;
            int lock = (int) (drawn >> 10 & 7);
            int hook = (int) (drawn >> 12 & 7);
            dueRow("20 room " + room + " of " + seed, Arrays.copyOf(room(x, room), 7), (int) ((drawn >> 16) % 5),
                lock > 3 ? 0 : lock, hook > 3 ? 0 : hook, (int) ((drawn >> 14) % 10), 0, 0, 0);
        }
    }

    private static void promise21back() {
        NightRounds x = new NightRounds();
        due("21 none", x.back(), -3);
        x.sets(0, HOOK, 1);
        x.sets(0, SLEEP, 4);
        text(x, "([0{lk!4}/]0{w}/)");
        x.goes();
        dueRow("21 gone", room(x, 0), 0, 0, 0, 4, 1, 1, 2, 0);
        due("21 back", x.back(), 2);
        dueRow("21 as ahead", room(x, 0), 0, 0, 1, 4, 0, 0, 0, 0);
        due("21 keys", x.count(5), 0);
        due("21 sum", x.count(6), 0);
        due("21 the text stays", x.count(3), 17);
        due("21 the diary stays", x.diary(-1), 4);
        for (int i = 1; i <= 9; i++) x.keys(i % 8 * 2);
        due("21 eight at most", x.count(4), 8);
        for (int i = 7; i >= 0; i--) due("21 back " + i, x.back(), i);
        due("21 older ones are lost", x.count(5), 2);
        due("21 none is left", x.back(), -3);
        due("21 noes", x.count(1), 2);
        due("21 back is no N", x.count(4), 0);
    }

    private static void promise22count() {
        NightRounds x = with("(0{lw}/)1{lk}[!9/]");
        x.sets(0, SLEEP, 5);
        x.sets(1, HOOK, 3);
        x.goes();
        x.back();
        x.back();
        x.back();
        x.back();
        x.sets(0, SLEEP, 5);
        x.sets(1, HOOK, 3);
        x.goes();
        int[] counts = {0, 1, 0, 18, 3, 8, 9, 1, 2};
        for (int i = 0; i < 9; i++) due("22 count(" + i + ")", x.count(i), counts[i]);
        due("22 9", x.count(9), -2);
        due("22 -1", x.count(-1), -2);
        due("22 bads", x.count(0), 2);
        while (x.type('+') > 0) due("22 bytes", x.count(3) <= 100 ? 1 : 0, 1);
        due("22 fulls", x.count(2), 1);
    }

    private static void promise23digest() {
        NightRounds x = new NightRounds();
        due("23 new", x.digest(), digestOf(x));
        due("23 by hand", new NightRounds().digest(), newDigest());
        x.draw(4711);
        x.keys(14);
        text(x, "x3:(0{l1{k}}/[!4/])(2{3{}}/);<4{!3}>");
        x.goes();
        due("23 a diary", x.diary(-1) > 10 ? 1 : 0, 1);
        due("23 gone", x.digest(), digestOf(x));
        x.back();
        x.back();
        x.back();
        x.keys(1);
        due("23 back", x.digest(), digestOf(x));
        due("23 changes nothing", x.digest(), x.digest());
    }

    private static void farNumbersAreBad() {
        NightRounds x = with("0{l}");
        int[] far = {Integer.MIN_VALUE, Integer.MIN_VALUE + 1, -1000, 1000, Integer.MAX_VALUE - 1, Integer.MAX_VALUE};
        for (int v : far) {
            int[] answers = {x.sets(v, 0, 0), x.sets(0, v, 0), x.sets(0, 0, v), x.of(v, 0), x.of(0, v), x.keys(v), x.type(v), x.often(v),
                x.was(v), x.were(v, 0), x.were(0, v), x.cures(v), x.ends(v), x.told(v), x.count(v)};
            for (int answer : answers) due("far " + v, answer, -2);
            due("far diary " + v, x.diary(v), v < 0 ? -10 : -5);
        }
        due("far draw", x.draw(Integer.MAX_VALUE), -2);
        due("far draw below", x.draw(Integer.MIN_VALUE), -2);
        due("far bads", x.count(0), 6 * 15 + 3 + 2);
        due("far nights", x.count(4), 0);
    }

    private static long newDigest() {
        long h = 1973;
        for (int i = 0; i < 9 + 8 * 7 + 8 + 1; i++) h = 31 * h + (i == 66 || i == 67 ? -1 : 0);
        return h;
    }
}
