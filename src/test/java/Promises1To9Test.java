/** Promises 1 to 9, sentence by sentence: a new object, the tape, the crossing, its FAULT, what it has. */
public final class Promises1To9Test {
    private static final Tester t = new Tester("Promises1To9Test");
    private static final String FULL = Texts.PLAIN + Texts.kinds(6, 99, 20, 9) + Texts.twelve("kf", 199);

    public static void main(String[] args) {
        newObject();
        feed();
        fullTape();
        end();
        crossing();
        refusedCrossing();
        freshCrossing();
        fault();
        has();
        letter();
        kind();
        walker();
        t.covers("Promise 1", "Promise 2", "Promise 3", "Promise 4", "Promise 5", "Promise 6", "Promise 7",
            "Promise 8", "Promise 9");
        t.finish();
    }

    private static void newObject() {
        t.says("Promise 1", "No crossing, no walkers.");
        PressAndWait x = new PressAndWait();
        for (int what = 0; what <= 7; what++) {
            t.due("has(" + what + ")", x.has(what), 0);
        }
        for (int what = 0; what <= 5; what++) {
            t.due("status(" + what + ")", x.status(what), 0);
            t.due("day(" + what + ")", x.day(what), -1);
            t.due("later(0, " + what + ")", x.later(0, what), -1);
        }
        t.due("letter(0, 0, 0)", x.letter(0, 0, 0), -1);
        t.due("letter(1, 0, 0)", x.letter(1, 0, 0), -1);
        t.due("kind(0, 0)", x.kind(0, 0), -1);
        t.due("walker(0, 0)", x.walker(0, 0), -1);
        t.due("light(0)", x.light(0), -1);
        t.due("car(0)", x.car(0), -1);
        t.due("best(0, 0)", x.best(0, 0), -1);
        t.due("least()", x.least(), -1);
        t.due("hold()", x.hold(), -1);
        t.due("doubts(0)", x.doubts(0), -1);
        t.due("fits(0)", x.fits(0), -1);
        t.due("watched(0)", x.watched(0), -1);
        t.due("octet(0)", x.octet(0), -1);
        t.due("fault(0)", x.fault(0), 0);
        t.due("fault(1)", x.fault(1), -1);
        t.due("the tape is empty", x.feed(0, 0, 0, 0, 0), 20);
        // One object is nothing to another.
        PressAndWait other = Tester.made(FULL);
        t.due("another has its own", other.has(2), 12);
        t.due("this one has none", x.has(2), 0);
    }

    private static void feed() {
        t.says("Promise 2", "Twenty bytes come behind those on the tape, of each number the highest first: how many "
            + "there are;");
        PressAndWait x = new PressAndWait();
        t.due("the first", x.feed(0x6379636C, 0x65203130, 0x20677265, 0x656E2031, 0x2072756C), 20);
        t.due("the second", x.feed(0x65203020, 0x6C656173, 0x7420303B, -1, Integer.MIN_VALUE), 40);
        x.end(32);
        t.due("cycle 10 green 1 rule 0 least 0;", x.crossing(), 1);
        t.due("its cycle", x.has(0), 10);
        t.due("its green", x.has(5), 1);
        // Behind those that end() has left, whatever their number.
        t.due("feed", x.feed(0x6379636C, 0x65203130, 0x20677265, 0x656E2031, 0x2072756C), 20);
        t.due("end(7)", x.end(7), true);
        t.due("feed behind 7", x.feed(0x37206772, 0x65656E20, 0x39207275, 0x6C652031, 0x206C6561), 27);
        t.due("feed behind 27", x.feed(0x73742034, 0x3B202020, 0x20202020, 0x20202020, 0x20202020), 47);
        t.due("cycle 17 green 9 rule 1 least 4;", x.crossing(), 1);
        t.due("its cycle", x.has(0), 17);
        // Bytes are 0 to 255, from the lowest number to the highest: AN IMAGE has all sorts of them.
        x = Tester.made(Texts.first(120, 1, 0, 0));
        t.due("feed of an image", x.feed(0x03E7023C, 0x7F000000, 0, 0, 0), 20);
        x.end(5);
        int[] image = Tester.image(999, 2, 60);
        t.due("its last byte is another", image[4] == 0x7F, false);
        t.due("so it is none", x.on(), false);
        t.due("feed of an image", x.feed(0x03E7023C, image[4] << 24 | 0xFFFFFF, 0, 0, 0), 20);
        x.end(5);
        t.due("on", x.on(), true);
        t.due("DAY 999", x.has(3), 999);
        x = Tester.made(Texts.PLAIN + Texts.kind("k", 0, 1, 0) + Texts.come("k", 0));
        t.due("feed of a row", x.feed(0x00FFFFFF, -1, -1, -1, -1), 20);
        x.end(3);
        t.due("bytes of 255", x.see(), 1);
    }

    private static void fill(PressAndWait x, int bytes) {
        for (int k = 0; k < bytes; k += 20) {
            x.feed(0x20202020, 0x20202020, 0x20202020, 0x20202020, 0x20202020);
        }
        x.end(bytes);
    }

    private static PressAndWait filled(int bytes) {
        PressAndWait x = new PressAndWait();
        fill(x, bytes);
        return x;
    }

    private static void fullTape() {
        t.says("Promise 2", "NONE, refused (0), if there would be more than 1600.");
        PressAndWait x = new PressAndWait();
        for (int k = 1; k <= 80; k++) {
            t.due("feed " + k, x.feed(1, 2, 3, 4, 5), 20 * k);
        }
        t.due("feed 81", x.feed(1, 2, 3, 4, 5), -1);
        t.due("status(0)", x.status(0), 1);
        t.due("feed 82", x.feed(1, 2, 3, 4, 5), -1);
        t.due("status(0)", x.status(0), 2);
        t.due("end(1600): it is full as it was", x.end(1600), true);
        for (int there : new int[] {1600, 1599, 1590, 1581}) {
            Twins.refused(t, "feed with " + there, () -> filled(there), y -> y.feed(0, 0, 0, 0, 0), -1, 0);
        }
        t.due("feed with 1580", filled(1580).feed(0, 0, 0, 0, 0), 1600);
        t.due("feed with 1579", filled(1579).feed(0, 0, 0, 0, 0), 1599);
        // A text that fills the tape to its last byte.
        x = new PressAndWait();
        Tester.tape(x, Texts.PLAIN + Texts.times(1600 - Texts.PLAIN.length() - 7, " ") + "away 7;");
        t.due("it is full", x.feed(0, 0, 0, 0, 0), -1);
        t.due("a crossing of 1600 bytes", x.crossing(), 2);
        t.due("then the tape is empty", x.feed(0, 0, 0, 0, 0), 20);
        x.end(0);
        Tester.tape(x, "often" + Texts.times(1592, " ") + "all");
        t.due("it is full", x.feed(0, 0, 0, 0, 0), -1);
        t.due("a question of 1600 bytes", x.ask(), 0);
    }

    private static void end() {
        t.says("Promise 3", "The tape has its first n bytes alone: true;");
        PressAndWait x = filled(1600);
        for (int n : new int[] {1600, 1599, 40, 21, 20, 19, 1, 0, 0}) {
            t.due("end(" + n + ")", x.end(n), true);
            t.due("feed behind " + n, x.feed(0, 0, 0, 0, 0), n > 1580 ? -1 : n + 20);
            t.due("end(" + n + ") again", x.end(n), true);
        }
        Tester.tape(x, Texts.PLAIN + "away 7;");
        t.due("without its last statement", x.end(Texts.PLAIN.length()), true);
        t.due("the first alone", x.crossing(), 1);
        t.says("Promise 3", "false, refused (0), if it has not so many, or n is below 0.");
        for (int there : new int[] {0, 1, 20, 1600}) {
            for (int n : new int[] {there + 1, there + 20, 1601, Integer.MAX_VALUE, -1, -20, Integer.MIN_VALUE}) {
                if (n < 0 || n > there) {
                    Twins.refused(t, "end(" + n + ") of " + there, () -> filled(there), y -> Tester.bit(y.end(n)), 0, 0);
                }
            }
        }
        Twins.refused(t, "end(33) of a text", Twins::busy, y -> Tester.bit(y.end(33)), 0, 0);
        Twins.refused(t, "end(-1) of a text", Twins::busy, y -> Tester.bit(y.end(-1)), 0, 0);
        // What had been cut is gone.
        x = filled(20);
        x.end(3);
        t.due("end(4)", x.end(4), false);
        t.due("end(3)", x.end(3), true);
    }

    private static void crossing() {
        t.says("Promise 4", "The tape (it goes) is THE CROSSING: how many STATEMENTS;");
        PressAndWait x = new PressAndWait();
        t.due("one", Tester.crossing(x, Texts.PLAIN), 1);
        t.due("the tape is gone", x.feed(0, 0, 0, 0, 0), 20);
        x.end(0);
        t.due("80", Tester.crossing(x, Texts.PLAIN + Texts.times(79, "away 1;")), 80);
        t.due("6 KINDS, 12 WALKERS", Tester.crossing(x, FULL), 19);
        t.due("with a fault", Tester.crossing(x, "x"), -1);
        t.due("the tape is gone with a fault, too", x.feed(0, 0, 0, 0, 0), 20);
        t.due("81", Tester.crossing(new PressAndWait(), Texts.PLAIN + Texts.times(80, "away 1;")), -1);
    }

    private static void refusedCrossing() {
        t.says("Promise 4", "NONE, refused (1), with a FAULT (all stays; one without a STATEMENT has FAULT 1 at its "
            + "length).");
        String[] texts = {"", " ", "x", "cycle 9", Texts.PLAIN + "kind k calm 1 pace 2 trusts 3;kind k", FULL + "kind",
            FULL + "learns (((((((", FULL + "car all;red all;car", "cycle 30 green 5 rule 2 least 8;car all;red all;learns 5;x"};
        for (String text : texts) {
            Twins.refusedWithFault(t, "crossing of [" + text + "]", Twins::busy, y -> again(y, text), -1, 1);
            Twins.refusedWithFault(t, "crossing of [" + text + "], the first", PressAndWait::new, y -> again(y, text), -1, 1);
        }
        for (int blanks : new int[] {0, 1, 19, 20, 1599, 1600}) {
            PressAndWait x = filled(blanks);
            t.due(blanks + " blanks", x.crossing(), -1);
            t.due(blanks + " blanks: fault(0)", x.fault(0), 1);
            t.due(blanks + " blanks: fault(1)", x.fault(1), blanks);
            t.due(blanks + " blanks: status(1)", x.status(1), 1);
        }
    }

    private static int again(PressAndWait x, String text) {
        x.end(0);
        return Tester.crossing(x, text);
    }

    private static PressAndWait busyThen(String text) {
        PressAndWait x = Twins.busy();
        x.seed(123);
        t.due("a crossing without a FAULT", again(x, text) > 0, true);
        return x;
    }

    private static PressAndWait newWith(String text) {
        PressAndWait x = new PressAndWait();
        x.seed(123);
        t.due("a crossing without a FAULT", Tester.crossing(x, text) > 0, true);
        return x;
    }

    private static void freshCrossing() {
        t.says("Promise 4", "Without one all is as at first, nothing is SEEN or can be undone; the seed stays.");
        String[] texts = {Texts.PLAIN, FULL, FULL + "car phase<3;red waited>3;learns 1;away 40;",
            Texts.first(120, 60, 1, 99) + Texts.kind("kid", 1, 1, 1) + "comes ann is kid at 1;",
            Texts.first(60, 50, 0, 0) + Texts.kind("kid", 1, 1, 1) + Texts.come("kid", 40, 41, 42, 199)};
        for (String text : texts) {
            Twins.alike(t, "behind others [" + text + "]", () -> busyThen(text), () -> newWith(text));
        }
        // Behind many, too: what was told by any of them is gone, and nothing is answered by what it was.
        String rich = Texts.first(20, 6, 0, 5) + Texts.kinds(6, 99, 20, 9) + Texts.twelve("ka", 3)
            + "car phase>3;red reds>0 or waited>9;learns 0-1;away 60;";
        for (String text : texts) {
            Twins.alike(t, "behind many [" + text + "]", () -> {
                PressAndWait x = Tester.made(rich);
                Tester.crossing(x, rich);
                Tester.crossing(x, rich + "x");
                x.seed(123);
                Tester.crossing(x, text);
                return x;
            }, () -> newWith(text));
            Twins.unswayed(t, "asked ahead of [" + text + "]", () -> Tester.made(rich), y -> Tester.crossing(y, text));
        }
        Twins.unswayed(t, "the same but for its WALKERS", () -> Tester.made(Texts.PLAIN + Texts.kind("k", 0, 5, 1)
            + Texts.come("k", 7)), y -> Tester.crossing(y, Texts.PLAIN + Texts.kind("k", 0, 5, 1) + Texts.come("k", 11, 12)));
        Twins.unswayed(t, "the same but for its cars", () -> Tester.made(Texts.PLAIN + Texts.kind("k", 0, 5, 1)
            + Texts.come("k", 7) + "red all;"), y -> Tester.crossing(y, Texts.PLAIN + Texts.kind("k", 0, 5, 1)
            + Texts.come("k", 7) + "red all;car all;"));
        PressAndWait x = busyThen(FULL);
        t.due("nothing is SEEN", x.has(6), 0);
        t.due("nothing can be undone", x.has(7), 0);
        t.due("undo()", x.undo(), false);
        t.due("the DAY", x.has(3), 0);
        // What was refused stays told, and the latest image.
        PressAndWait y = Twins.busy();
        PressAndWait z = busyThen(Texts.PLAIN);
        for (int what = 0; what < 6; what++) {
            t.due("status(" + what + ")", z.status(what), y.status(what));
        }
        for (int k = 0; k < 8; k++) {
            t.due("octet(" + k + ")", z.octet(k), y.octet(k));
        }
        // The same text again is as at first, too.
        x = Tester.made(Texts.PLAIN + Texts.kind("k", 0, 5, 4) + Texts.come("k", 20) + "learns 0-1;");
        x.days(3);
        x.green(9);
        Tester.see(x, 0, 0, 20);
        t.due("the same again", Tester.crossing(x, Texts.PLAIN + Texts.kind("k", 0, 5, 4) + Texts.come("k", 20)
            + "learns 0-1;"), 4);
        Looks.state(t, "the same again", x, 0, 0, 6, 0);
        Looks.trusts(t, "the same again", x, 4);
        t.due("the same again: SEEN", x.has(6), 0);
    }

    private static void faultIs(String name, PressAndWait x, int fault, int place) {
        t.due(name + ": fault(0)", x.fault(0), fault);
        t.due(name + ": fault(1)", x.fault(1), place);
    }

    private static void fault() {
        t.says("Promise 5", "Of the latest crossing() or ask(): its FAULT (what 0; 0 without, and ahead of any), its "
            + "place (1; NONE without).");
        PressAndWait x = new PressAndWait();
        faultIs("ahead of any", x, 0, -1);
        String[] marked = {"|x", "cycle |9", Texts.PLAIN + "comes a is |k at 1;", Texts.PLAIN + "learns ((((((|(1",
            Texts.PLAIN + "car all;|car all;"};
        for (int k = 0; k < marked.length; k++) {
            t.due(marked[k], Tester.crossing(x, Tester.unmarked(marked[k])), -1);
            faultIs(marked[k], x, k + 1, marked[k].indexOf('|'));
            faultIs("again: " + marked[k], x, k + 1, marked[k].indexOf('|'));
        }
        Tester.crossing(x, Texts.times(1599, " ") + "x");
        faultIs("at the last byte", x, 1, 1599);
        Tester.crossing(x, Texts.times(1600, " "));
        faultIs("at the length", x, 1, 1600);
        Tester.crossing(x, FULL);
        faultIs("without", x, 0, -1);
        Tester.ask(x, "total ((((((((1");
        faultIs("a question", x, 4, 12);
        Tester.ask(x, "total 1");
        faultIs("a question without", x, 0, -1);
        Tester.ask(x, "x");
        faultIs("a question", x, 1, 0);
        // Others tell none of theirs.
        Tester.see(x, 99, 99, 99);
        Tester.on(x, 1, 2, 3);
        x.undo();
        x.rule(9);
        x.days(99);
        faultIs("behind others", x, 1, 0);
        Tester.crossing(x, FULL);
        faultIs("without", x, 0, -1);
        t.says("Promise 5", "NONE for another what.");
        for (int what : new int[] {-1, 2, 3, Integer.MIN_VALUE, Integer.MAX_VALUE}) {
            Twins.answers(t, "fault(" + what + ")", Twins::busy, y -> y.fault(what), -1);
            t.due("fault(" + what + ") at first", new PressAndWait().fault(what), -1);
        }
    }

    private static void has() {
        t.says("Promise 6", "How many there are: 0 the cycle, 1 KINDS, 2 WALKERS, 3 DAY, 4 RULE, 5 green, 6 rows SEEN, "
            + "7 ACTS that can be undone.");
        PressAndWait x = Tester.made(Texts.first(120, 60, 2, 0) + Texts.kinds(6, 0, 1, 0) + Texts.twelve("ka", 7));
        Tester.on(x, Tester.image(999, 2, 60, 0, 0, 0, 0, 0, 0));
        t.due("16 rows", Tester.see(x, new int[48]), 16);
        for (int k = 0; k < 21; k++) {
            x.trust(0, 1 + k % 2);
        }
        int[] most = {120, 6, 12, 999, 2, 60, 16, 20};
        for (int what = 0; what < 8; what++) {
            t.due("the most: has(" + what + ")", x.has(what), most[what]);
        }
        x = Tester.made(Texts.first(10, 1, 0, 0));
        int[] fewest = {10, 0, 0, 0, 0, 1, 0, 0};
        for (int what = 0; what < 8; what++) {
            t.due("the fewest: has(" + what + ")", x.has(what), fewest[what]);
        }
        // Each tells its own.
        x = Tester.made(Texts.first(30, 7, 1, 4) + Texts.kinds(3, 0, 1, 0) + Texts.come("ka", 1, 2, 3, 4, 5));
        Tester.see(x, 0, 0, 1, 1, 0, 2);
        x.days(8);
        x.rule(2);
        x.green(9);
        int[] each = {30, 3, 5, 8, 2, 9, 2, 3};
        for (int what = 0; what < 8; what++) {
            t.due("each: has(" + what + ")", x.has(what), each[what]);
        }
        t.says("Promise 6", "NONE for others.");
        for (int what : new int[] {-1, 8, 9, Integer.MIN_VALUE, Integer.MAX_VALUE}) {
            Twins.answers(t, "has(" + what + ")", Twins::busy, y -> y.has(what), -1);
            t.due("has(" + what + ") at first", new PressAndWait().has(what), -1);
        }
    }

    private static void nameIs(PressAndWait x, int kind, int which, String name) {
        for (int k = 0; k < 6; k++) {
            int want = k < name.length() ? name.charAt(k) - 'a' + 1 : 0;
            t.due(name + ": letter(" + kind + ", " + which + ", " + k + ")", x.letter(kind, which, k), want);
        }
    }

    private static void letter() {
        t.says("Promise 7", "Letter k (0 .. 5) of the NAME of a KIND (kind 0), a WALKER (1): 1 .. 26; 0 behind it;");
        PressAndWait x = Tester.made(Texts.PLAIN + Texts.kind("a", 0, 1, 0) + Texts.kind("azazaz", 0, 1, 0)
            + "comes z is a at 1;comes zyxwvu is a at 1;comes bb is a at 1;");
        nameIs(x, 0, 0, "a");
        nameIs(x, 0, 1, "azazaz");
        nameIs(x, 1, 0, "z");
        nameIs(x, 1, 1, "zyxwvu");
        nameIs(x, 1, 2, "bb");
        x = Tester.made(FULL);
        nameIs(x, 0, 0, "ka");
        nameIs(x, 0, 5, "kf");
        nameIs(x, 1, 0, "wa");
        nameIs(x, 1, 11, "wl");
        // A shorter name in the place of a longer one.
        Tester.crossing(x, Texts.PLAIN + Texts.kind("abcdef", 0, 1, 0));
        Tester.crossing(x, Texts.PLAIN + Texts.kind("g", 0, 1, 0));
        Tester.crossing(x, Texts.PLAIN + Texts.kind("h", 0, 1, 0));
        nameIs(x, 0, 0, "h");
        t.says("Promise 7", "NONE when there is none such.");
        int[][] none = {{0, 6, 0}, {0, -1, 0}, {1, 12, 0}, {1, -1, 0}, {-1, 0, 0}, {2, 0, 0}, {0, 0, -1}, {0, 0, 6},
            {1, 11, 6}, {1, 11, -1}, {0, Integer.MIN_VALUE, 0}, {1, Integer.MAX_VALUE, 0}, {Integer.MIN_VALUE, 0, 0},
            {Integer.MAX_VALUE, 0, 0}, {0, 0, Integer.MIN_VALUE}, {0, 0, Integer.MAX_VALUE}};
        for (int[] n : none) {
            Twins.answers(t, "letter(" + n[0] + ", " + n[1] + ", " + n[2] + ")", () -> Tester.made(FULL),
                y -> y.letter(n[0], n[1], n[2]), -1);
        }
        x = Tester.made(Texts.PLAIN + Texts.kind("k", 0, 1, 0));
        t.due("the second of one KIND", x.letter(0, 1, 0), -1);
        t.due("the first of no WALKERS", x.letter(1, 0, 0), -1);
    }

    private static void kind() {
        t.says("Promise 8", "Of a KIND: 0 calm, 1 pace, 2 how it trusts, 3 its WALKERS, as bits.");
        PressAndWait x = Tester.made(Texts.PLAIN + Texts.kind("a", 0, 1, 0) + Texts.kind("b", 99, 20, 9)
            + Texts.kind("c", 50, 10, 5) + "comes e is b at 1;" + Texts.come("a", 1, 1, 1, 1, 1, 1, 1, 1, 1, 1)
            + "comes f is b at 1;");
        int[][] want = {{0, 1, 0, 2046}, {99, 20, 9, 2049}, {50, 10, 5, 0}};
        for (int k = 0; k < 3; k++) {
            for (int what = 0; what < 4; what++) {
                t.due("kind(" + k + ", " + what + ")", x.kind(k, what), want[k][what]);
            }
        }
        x = Tester.made(FULL);
        t.due("all twelve", x.kind(5, 3), 4095);
        t.due("none", x.kind(4, 3), 0);
        x.trust(5, 0);
        t.due("how it trusts now", x.kind(5, 2), 0);
        t.says("Promise 8", "NONE when there is none such, or for others.");
        int[][] none = {{6, 0}, {-1, 0}, {Integer.MIN_VALUE, 0}, {Integer.MAX_VALUE, 0}, {0, -1}, {0, 4}, {5, 4},
            {0, Integer.MIN_VALUE}, {0, Integer.MAX_VALUE}};
        for (int[] n : none) {
            Twins.answers(t, "kind(" + n[0] + ", " + n[1] + ")", () -> Tester.made(FULL), y -> y.kind(n[0], n[1]), -1);
        }
        t.due("the third of two", Twins.busy().kind(2, 0), -1);
        t.due("no KINDS", Tester.made(Texts.PLAIN).kind(0, 0), -1);
    }

    private static void walker() {
        t.says("Promise 9", "Of a WALKER: 0 his KIND, 1 the SECOND in which he comes, 2 in which he crosses or GOES on "
            + "this DAY (NONE when he does not), 3 SECONDS he waits, 4 whether he GOES, 5 whether he is HARMED, 6 "
            + "whether he presses.");
        String start = Texts.first(99, 5, 0, 0) + Texts.kinds(5, 0, 20, 0) + Texts.kind("kf", 0, 1, 9);
        PressAndWait x = Tester.made(start + "comes a is kf at 0;comes b is ka at 0;comes c is ka at 199;comes d is kf at 199;"
            + "comes e is ka at 100;comes f is ka at 101;"
            + "red second=299 and reds<2 or waited=0 and second>99 and second<102;car second=120;");
        // e and f go by a green that does not last, f is harmed; so two have gone by 299, and b and c wait on.
        int[][] want = {{5, 0, 0, 0, 0, 0, 1}, {0, 0, -1, 300, 0, 0, 0}, {0, 199, -1, 101, 0, 0, 0}, {5, 199, 199, 0, 0, 0, 0},
            {0, 100, 100, 0, 1, 0, 0}, {0, 101, 101, 0, 1, 1, 0}};
        for (int w = 0; w < want.length; w++) {
            for (int what = 0; what < 7; what++) {
                t.due("walker(" + w + ", " + what + ")", x.walker(w, what), want[w][what]);
            }
        }
        x = Tester.made(Texts.first(99, 5, 1, 0) + Texts.kind("k", 0, 20, 0) + Texts.come("k", 0, 199) + "red second=299;");
        int[][] late = {{0, 0, 299, 299, 1, 0, 0}, {0, 199, 299, 100, 1, 0, 0}};
        for (int w = 0; w < late.length; w++) {
            for (int what = 0; what < 7; what++) {
                t.due("in the last SECOND: walker(" + w + ", " + what + ")", x.walker(w, what), late[w][what]);
            }
        }
        // On this DAY, by what is now.
        x = Tester.made(Texts.first(99, 5, 1, 0) + Texts.kind("k", 0, 5, 0) + Texts.come("k", 10));
        t.due("without belief", x.walker(0, 2), -1);
        x.trust(0, 1);
        t.due("with belief", x.walker(0, 2), 10);
        x.green(4);
        t.due("too short", x.walker(0, 2), -1);
        x.undo();
        t.due("undone", x.walker(0, 2), 10);
        t.says("Promise 9", "NONE when there is none such, or for others.");
        int[][] none = {{12, 0}, {-1, 0}, {12, 2}, {Integer.MIN_VALUE, 0}, {Integer.MAX_VALUE, 0}, {0, -1}, {0, 7}, {11, 7},
            {0, Integer.MIN_VALUE}, {0, Integer.MAX_VALUE}};
        for (int[] n : none) {
            Twins.answers(t, "walker(" + n[0] + ", " + n[1] + ")", () -> Tester.made(FULL), y -> y.walker(n[0], n[1]), -1);
        }
        t.due("the fourth of three", Twins.busy().walker(3, 0), -1);
        t.due("no WALKERS", Tester.made(Texts.PLAIN).walker(0, 0), -1);
    }
}
