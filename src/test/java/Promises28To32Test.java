/** Promises 28 to 32, sentence by sentence: questions, images, what was refused. */
public final class Promises28To32Test {
    private static final Tester t = new Tester("Promises28To32Test");
    private static final long NOTHING = -1000000000000000L;
    private static final int MIN = Integer.MIN_VALUE;
    private static final int MAX = Integer.MAX_VALUE;
    private static final String TEXT = Texts.first(20, 6, 1, 5) + Texts.kind("kid", 3, 4, 2) + Texts.kind("old", 30, 6, 9)
        + "comes ann is kid at 0;";

    public static void main(String[] args) {
        constants();
        ask();
        askForNone();
        askInVain();
        image();
        octet();
        on();
        refusedImages();
        status();
        manyCalls();
        t.covers("Promise 28", "Promise 29", "Promise 30", "Promise 31", "Promise 32", "The constants", "What it is");
        t.finish();
    }

    private static void constants() {
        t.says("The constants", "`NONE = -1`: There is none; it is refused.");
        t.due("NONE", PressAndWait.NONE, -1);
        t.says("The constants", "`NOTHING = -1000000000000000L`: Told where a number below 0 may be one.");
        t.due("NOTHING", PressAndWait.NOTHING, NOTHING);
        PressAndWait x = Tester.made(TEXT);
        t.due("-1 is an answer", Tester.ask(x, "total 0-1"), -1);
        t.due("the least that can be", Tester.ask(x, "least 0-9999*9999"), -1000000);
        t.due("NOTHING with a FAULT", Tester.ask(x, "least"), NOTHING);
    }

    private static long ask(PressAndWait x, String text) {
        x.end(0);
        return Tester.ask(x, text);
    }

    private static void ask() {
        t.says("Promise 28", "The tape (it goes) is a QUESTION: its answer;");
        PressAndWait x = Tester.made(TEXT);
        t.due("often all", Tester.ask(x, "often all"), 1);
        t.due("the tape is gone", x.feed(0, 0, 0, 0, 0), 20);
        x.end(0);
        t.due("with a FAULT", Tester.ask(x, "often all;"), NOTHING);
        t.due("the tape is gone, too", x.feed(0, 0, 0, 0, 0), 20);
        t.due("bytes of 0 are no question", x.ask(), NOTHING);
        t.due("its place", x.fault(1), 0);
        // Nothing is changed by it, nothing is refused.
        String[] questions = {"often all", "total second", "first not all", "most waited", "least 0-waited"};
        for (String question : questions) {
            Twins.asked(t, question, Twins::busy, y -> ask(y, question), ask(Twins.busy(), question));
        }
        // The longest there can be.
        String longest = "total 1" + Texts.times(796, "+1");
        t.due("its length", longest.length(), 1599);
        t.due("797 of one walker", Tester.ask(Tester.made(TEXT), longest), 797);
    }

    private static void askForNone() {
        t.says("Promise 28", "NONE of first, last, when its TEST holds for none;");
        PressAndWait x = Twins.busy();
        t.due("first not all", ask(x, "first not all"), -1);
        t.due("its fault", x.fault(0), 0);
        t.due("last not all", ask(x, "last not all"), -1);
        t.due("first all", ask(x, "first all"), 0);
        t.due("last all", ask(x, "last all"), 2);
        x = Tester.made(Texts.PLAIN);
        t.due("first all, of nobody", Tester.ask(x, "first all"), -1);
        t.due("last all, of nobody", Tester.ask(x, "last all"), -1);
        t.due("often all, of nobody", Tester.ask(x, "often all"), 0);
        t.due("total 1, of nobody", Tester.ask(x, "total 1"), 0);
    }

    private static void askInVain() {
        t.says("Promise 28", "NOTHING with a FAULT, or, doing nothing else, without a crossing.");
        String[] marked = {"|", " |", "|x", "total|", "total 1|;", "total ((((((|(1", "first 1|", "total 1234|5"};
        for (String one : marked) {
            String text = Tester.unmarked(one);
            Twins.asked(t, one, Twins::busy, y -> ask(y, text), NOTHING);
            PressAndWait x = Twins.busy();
            ask(x, text);
            t.due("its place: " + one, x.fault(1), one.indexOf('|'));
            // Without a crossing fault() tells nothing of it.
            Twins.askedInVain(t, one + " without a crossing", PressAndWait::new, y -> ask(y, text), NOTHING);
        }
        Twins.askedInVain(t, "often all without a crossing", PressAndWait::new, y -> ask(y, "often all"), NOTHING);
        Twins.askedInVain(t, "often all behind a FAULT", () -> {
            PressAndWait y = new PressAndWait();
            Tester.crossing(y, "cycle 9");
            return y;
        }, y -> ask(y, "often all"), NOTHING);
    }

    private static void octetsAre(String name, PressAndWait x, int... want) {
        for (int k = 0; k < want.length; k++) {
            t.due(name + ": octet(" + k + ")", x.octet(k), want[k]);
        }
        t.due(name + ": octet(" + want.length + ")", x.octet(want.length), -1);
        t.due(name + ": octet(-1)", x.octet(-1), -1);
    }

    private static void image() {
        t.says("Promise 29", "AN IMAGE is written: how many bytes.");
        PressAndWait x = new PressAndWait();
        t.due("without a crossing", x.image(), 5);
        octetsAre("without a crossing", x, 0, 0, 0, 0, 149);
        for (int kinds = 0; kinds <= 6; kinds++) {
            x = Tester.made(Texts.PLAIN + Texts.kinds(kinds, 0, 1, 9));
            t.due(kinds + " KINDS", x.image(), 5 + kinds);
            int[] trusts = new int[kinds];
            java.util.Arrays.fill(trusts, 9);
            octetsAre(kinds + " KINDS", x, Tester.image(0, 0, 6, trusts));
        }
        // A shorter one behind a longer one, and its own way back.
        Tester.crossing(x, Texts.PLAIN);
        t.due("no KINDS again", x.image(), 5);
        octetsAre("no KINDS again", x, Tester.image(0, 0, 6));
        PressAndWait y = Twins.busy();
        int[] bytes = new int[y.image()];
        for (int k = 0; k < bytes.length; k++) {
            bytes[k] = y.octet(k);
        }
        y.end(0);
        y.rule(0);
        t.due("its own way back", Tester.on(y, bytes), true);
        t.due("the RULE", y.has(4), 1);
        // All else stays.
        Twins.alike(t, "with an image", () -> {
            PressAndWait z = Twins.busy();
            t.due("image()", z.image(), 7);
            return z;
        }, Twins::busy);
    }

    private static void octet() {
        t.says("Promise 30", "Byte k of the latest image(); NONE when there is none such.");
        PressAndWait x = new PressAndWait();
        for (int k : new int[] {0, 4, -1, MIN, MAX}) {
            t.due("no image yet: octet(" + k + ")", x.octet(k), -1);
        }
        x = Tester.made(Texts.PLAIN + Texts.kinds(6, 0, 1, 7));
        t.due("no image yet", x.octet(0), -1);
        x.image();
        t.due("the first", x.octet(0), 0);
        t.due("the last KIND", x.octet(9), 7);
        t.due("the last", x.octet(10), Tester.image(0, 0, 6, 7, 7, 7, 7, 7, 7)[10]);
        for (int k : new int[] {-1, 11, 12, MIN, MAX}) {
            t.due("octet(" + k + ")", x.octet(k), -1);
        }
        for (int k : new int[] {-1, 7, 11, MIN, MAX}) {
            Twins.answers(t, "octet(" + k + ")", Twins::busy, y -> y.octet(k), -1);
        }
        // The latest, until there is another: acts, a crossing, an image taken do not change it.
        x = Tester.made(TEXT);
        x.image();
        int[] first = Tester.image(0, 1, 6, 2, 9);
        x.green(7);
        octetsAre("behind an ACT", x, first);
        x.undo();
        Tester.on(x, Tester.image(5, 2, 8, 0, 0));
        octetsAre("behind on()", x, first);
        Tester.crossing(x, Texts.PLAIN);
        octetsAre("behind a crossing", x, first);
        Tester.crossing(x, "x");
        octetsAre("behind a FAULT", x, first);
        x.image();
        octetsAre("another", x, Tester.image(0, 0, 6));
    }

    private static void on() {
        t.says("Promise 31", "The tape (it goes) is AN IMAGE of this CROSSING: true, all is as it tells, nothing can be "
            + "undone;");
        int[][] can = {{0, 0, 1, 0, 0}, {999, 2, 19, 9, 9}, {255, 1, 6, 0, 9}, {256, 1, 6, 9, 0}, {998, 0, 18, 1, 8}};
        for (int[] n : can) {
            PressAndWait x = Tester.made(TEXT);
            x.green(7);
            x.days(2);
            Tester.see(x, 0, 0, 5);
            t.due("DAY " + n[0], Tester.on(x, Tester.image(n[0], n[1], n[2], n[3], n[4])), true);
            Looks.state(t, "DAY " + n[0], x, n[0], n[1], n[2], 0);
            Looks.trusts(t, "DAY " + n[0], x, n[3], n[4]);
            t.due("the tape is gone", x.feed(0, 0, 0, 0, 0), 20);
            t.due("nothing can be undone", x.undo(), false);
            t.due("status(5)", x.status(5), 0);
            t.due("what is SEEN is no part of it", x.has(6), 1);
            t.due("the cycle is as it was", x.has(0), 20);
        }
        // All is as it tells: as if it had come so.
        Twins.alike(t, "as it tells", () -> {
            PressAndWait x = Tester.made(TEXT + "learns 0-1;away 30;");
            x.green(9);
            x.days(3);
            Tester.on(x, Tester.image(0, 1, 6, 2, 9));
            return x;
        }, () -> Tester.made(TEXT + "learns 0-1;away 30;"));
        Twins.unswayed(t, "whatever was asked ahead", Twins::busy, y -> {
            y.end(0);
            return Tester.bit(Tester.on(y, Tester.image(7, 2, 9, 0, 1)));
        });
        PressAndWait x = Tester.made(Texts.first(120, 1, 0, 0));
        t.due("green 60, no KINDS", Tester.on(x, Tester.image(1, 2, 60)), true);
        x = Tester.made(Texts.PLAIN + Texts.kinds(6, 0, 1, 1));
        t.due("six KINDS", Tester.on(x, Tester.image(1, 2, 6, 0, 1, 2, 3, 4, 9)), true);
        Looks.trusts(t, "six KINDS", x, 0, 1, 2, 3, 4, 9);
        // The same crossing in another object; the seed is no part of it.
        t.due("on an object of its own", Tester.on(Tester.made(TEXT), Tester.image(3, 1, 6, 2, 9)), true);
    }

    private static PressAndWait lived() {
        PressAndWait x = Tester.made(TEXT + "learns 0-1;away 30;");
        x.green(7);
        x.days(2);
        Tester.see(x, 0, 0, 5);
        x.image();
        return x;
    }

    private static void refusedImages() {
        t.says("Promise 31", "false, refused (5), when it is none (DAY 999, RULE 2, trusts 9 at most; a green that can "
            + "be), or without a crossing, all staying.");
        int[][] cannot = {Tester.image(1000, 0, 5, 1, 1), Tester.image(1001, 0, 5, 1, 1), Tester.image(1023, 0, 5, 1, 1),
            Tester.image(1024, 0, 5, 1, 1), Tester.image(65535, 0, 5, 1, 1), Tester.image(3, 3, 5, 1, 1),
            Tester.image(3, 255, 5, 1, 1), Tester.image(3, 0, 0, 1, 1), Tester.image(3, 0, 20, 1, 1),
            Tester.image(3, 0, 21, 1, 1), Tester.image(3, 0, 255, 1, 1), Tester.image(3, 0, 5, 10, 1),
            Tester.image(3, 0, 5, 1, 10), Tester.image(3, 0, 5, 255, 1), Tester.image(3, 0, 5, 1, 255),
            Tester.image(3, 0, 5), Tester.image(3, 0, 5, 1), Tester.image(3, 0, 5, 1, 1, 1),
            Tester.image(3, 0, 5, 1, 1, 1, 1, 1, 1), {}, {0}, {0, 0, 1, 6}, {149}, new int[1600]};
        for (int k = 0; k < cannot.length; k++) {
            int[] image = cannot[k];
            Twins.refusedWithTape(t, "image " + k, Promises28To32Test::lived, y -> Tester.bit(Tester.on(y, image)), 0, 5);
        }
        // Each of its bytes one off, the last among them.
        for (int k = 0; k < 7; k++) {
            int[] image = Tester.image(3, 0, 5, 1, 1);
            image[k] += 1;
            Twins.refusedWithTape(t, "byte " + k, Promises28To32Test::lived, y -> Tester.bit(Tester.on(y, image)), 0, 5);
        }
        Twins.refusedWithTape(t, "green 61", () -> Tester.made(Texts.first(120, 1, 0, 0)),
            y -> Tester.bit(Tester.on(y, Tester.image(0, 0, 61))), 0, 5);
        Twins.refusedWithTape(t, "green 60 of 60", () -> Tester.made(Texts.first(60, 1, 0, 0)),
            y -> Tester.bit(Tester.on(y, Tester.image(0, 0, 60))), 0, 5);
        t.due("green 59 of 60", Tester.on(Tester.made(Texts.first(60, 1, 0, 0)), Tester.image(0, 0, 59)), true);
        // Another last byte that is the same by 251.
        for (int day = 0; day < 1000; day++) {
            int[] image = Tester.image(day, 0, 5, 1, 1);
            if (image[6] < 5) {
                image[6] += 251;
                t.due("251 more on DAY " + day, Tester.on(Tester.made(TEXT), image), false);
            }
        }
        Twins.refusedWithTape(t, "without a crossing", PressAndWait::new,
            y -> Tester.bit(Tester.on(y, Tester.image(0, 0, 0))), 0, 5);
        Twins.refusedWithTape(t, "without a crossing, a green of 1", PressAndWait::new,
            y -> Tester.bit(Tester.on(y, Tester.image(0, 0, 1))), 0, 5);
        Twins.refusedWithTape(t, "nothing", Promises28To32Test::lived, y -> Tester.bit(y.on()), 0, 5);
        Twins.refusedWithTape(t, "a text", Twins::busy, y -> Tester.bit(y.on()), 0, 5);
    }

    private static void statusIs(String name, PressAndWait x, int... want) {
        for (int what = 0; what < 6; what++) {
            t.due(name + ": status(" + what + ")", x.status(what), want[what]);
        }
    }

    private static void status() {
        t.says("Promise 32", "How many were refused: 0 feed(), end(); 1 crossing(), see(); 2 rule(), green(), trust(); "
            + "3 days(), chance(); 4 undo(); 5 seed(), on().");
        PressAndWait x = new PressAndWait();
        statusIs("at first", x, 0, 0, 0, 0, 0, 0);
        x.end(1);
        statusIs("end()", x, 1, 0, 0, 0, 0, 0);
        for (int k = 0; k < 80; k++) {
            x.feed(0, 0, 0, 0, 0);
        }
        statusIs("80 times feed()", x, 1, 0, 0, 0, 0, 0);
        x.feed(0, 0, 0, 0, 0);
        statusIs("feed()", x, 2, 0, 0, 0, 0, 0);
        x.crossing();
        statusIs("crossing()", x, 2, 1, 0, 0, 0, 0);
        x.see();
        statusIs("see()", x, 2, 2, 0, 0, 0, 0);
        x.rule(1);
        statusIs("rule()", x, 2, 2, 1, 0, 0, 0);
        x.green(1);
        statusIs("green()", x, 2, 2, 2, 0, 0, 0);
        x.trust(0, 1);
        statusIs("trust()", x, 2, 2, 3, 0, 0, 0);
        x.days(1);
        statusIs("days()", x, 2, 2, 3, 1, 0, 0);
        x.chance(1);
        statusIs("chance()", x, 2, 2, 3, 2, 0, 0);
        x.undo();
        statusIs("undo()", x, 2, 2, 3, 2, 1, 0);
        x.seed(-1);
        statusIs("seed()", x, 2, 2, 3, 2, 1, 1);
        x.on();
        statusIs("on()", x, 2, 2, 3, 2, 1, 2);
        // What answers NONE or NOTHING without being refused is not counted, nor what is done.
        x.ask();
        x.fault(9);
        x.has(9);
        x.letter(9, 9, 9);
        x.kind(9, 9);
        x.walker(9, 9);
        x.light(999);
        x.car(999);
        x.day(9);
        x.best(99, 9);
        x.least();
        x.hold();
        x.later(99, 9);
        x.doubts(9);
        x.fits(9);
        x.watched(9);
        x.octet(99);
        x.status(9);
        x.image();
        statusIs("others", x, 2, 2, 3, 2, 1, 2);
        Tester.crossing(x, TEXT);
        Tester.see(x, 0, 0, 5);
        x.rule(0);
        x.green(1);
        x.trust(0, 1);
        x.days(1);
        x.chance(1);
        x.undo();
        x.seed(1);
        Tester.on(x, Tester.image(0, 0, 1, 1, 1));
        Tester.ask(x, "x");
        statusIs("what is done", x, 2, 2, 3, 2, 1, 2);
        t.says("Promise 32", "NONE for others.");
        for (int what : new int[] {-1, 6, 7, MIN, MAX}) {
            t.due("status(" + what + ")", new PressAndWait().status(what), -1);
            Twins.answers(t, "status(" + what + ")", Twins::busy, y -> y.status(what), -1);
        }
    }

    /** The 512th call is answered as the first; each refused one has been counted. */
    private static void manyCalls() {
        t.says("What it is", "An object is used for at most 512 calls after it has been made; what later calls answer "
            + "is free.");
        PressAndWait x = new PressAndWait();
        for (int k = 1; k <= 511; k++) {
            t.due("undo " + k, x.undo(), false);
        }
        t.due("status(4)", x.status(4), 511);
        x = new PressAndWait();
        int calls = 0;
        for (; calls < 480; calls += 8) {
            t.due("tape", x.feed(0x6379636C, 0x65203130, 0x20677265, 0x656E2031, 0x2072756C), 20);
            t.due("tape", x.feed(0x65203020, 0x6C656173, 0x7420303B, 0, 0), 40);
            x.end(32);
            t.due("call " + calls + ": crossing", x.crossing(), 1);
            t.due("call " + calls + ": days", x.days(30), 0);
            t.due("call " + calls + ": best", x.best(0, 1), 1);
            t.due("call " + calls + ": later", x.later(29, 4), 30);
            t.due("call " + calls + ": fits", x.fits(0), 27);
        }
        // 480 so far; then ACTS till the last one.
        for (; calls < 511; calls++) {
            t.due("call " + calls + ": green", x.green(2 + calls % 2), true);
        }
        t.due("call 512", x.has(7), 20);
        // Long questions, one behind the other, and crossings between them.
        String longest = "total 1" + Texts.times(296, "+1");
        x = new PressAndWait();
        for (int k = 0; k < 5; k++) {
            t.due("crossing " + k, Tester.crossing(x, TEXT + "learns 1" + Texts.times(500, "+1") + ";"), 5);
            t.due("days(1) " + k, x.days(1) >= 0, true);
            Looks.trusts(t, "learnt " + k, x, 9, 9);
            t.due("long question " + k, Tester.ask(x, longest), 297);
        }
        x = Tester.made(TEXT);
        for (int k = 0; k < 160; k++) {
            t.due("question " + k, Tester.ask(x, "total number-" + k), -k);
        }
    }
}
