/** Term III, sentence by sentence: what is told of a day, BEST, LEAST, HOLD, AHEAD, SEEN, WATCHED. */
public final class Term3Test {
    private static final Tester t = new Tester("Term3Test");

    public static void main(String[] args) {
        whatIsTold();
        greensForNobody();
        bestGreens();
        bestHarmed();
        bestOfLikeOnes();
        leastGreens();
        leastAndAll();
        hold();
        ahead();
        seen();
        seenGreens();
        watched();
        t.covers("Term III");
        t.finish();
    }

    private static void whatIsTold() {
        t.says("Term III", "Of a DAY are told SECONDS waited by all (who has not crossed, too), who GO at red, who are "
            + "HARMED, who have not crossed,");
        String never = Texts.first(10, 5, 1, 0) + Texts.kind("k", 0, 20, 0);
        Looks.dayIs(t, "nobody", Tester.made(never), 0, 0, 0, 0, 0, 0);
        Looks.dayIs(t, "one waits all DAY", Tester.made(never + Texts.come("k", 0)), 300, 0, 0, 1, 0, 0);
        Looks.dayIs(t, "twelve wait all DAY", Tester.made(never + Texts.twelve("k", 0)), 3600, 0, 0, 12, 0, 0);
        Looks.dayIs(t, "twelve from 199 on", Tester.made(never + Texts.twelve("k", 199)), 1212, 0, 0, 12, 0, 0);
        Looks.dayIs(t, "twelve go", Tester.made(never + Texts.twelve("k", 0) + "red all;"), 0, 12, 0, 0, 0, 0);
        Looks.dayIs(t, "twelve are harmed", Tester.made(never + Texts.twelve("k", 0) + "red all;car all;"), 0, 12, 12, 0, 0, 0);
        Looks.dayIs(t, "eleven go, one is left", Tester.made(never + Texts.twelve("k", 0) + "red reds<11;"), 300, 11, 0, 1, 0, 0);
        Looks.dayIs(t, "one is harmed of two who go", Tester.made(never + Texts.come("k", 0, 0)
            + "red second=30*reds;car second=49;"), 30, 2, 1, 0, 0, 0);
        String some = Texts.first(20, 6, 0, 0) + Texts.kind("k", 0, 6, 9);
        Looks.dayIs(t, "all cross", Tester.made(some + Texts.twelve("k", 1)), 12 * 19, 0, 0, 0, 14, 0);
        t.says("Term III", "who press.");
        t.due("nobody presses", Tester.made(some + Texts.twelve("k", 1)).day(5), 0);
        t.due("all press", Tester.made(some + Texts.twelve("k", 0)).day(5), 12);
        t.due("one presses", Tester.made(some + Texts.come("k", 6, 7)).day(5), 1);
    }

    private static void greensForNobody() {
        t.says("Term III", "greens for NOBODY (rows of green SECONDS side by side in which none crosses),");
        t.due("thirty, each of one SECOND", Tester.made(Texts.first(10, 1, 0, 0)).day(4), 30);
        t.due("thirty, but for one SECOND side by side", Tester.made(Texts.first(10, 9, 0, 0)).day(4), 30);
        t.due("the last is cut by the end", Tester.made(Texts.first(120, 60, 0, 0)).day(4), 3);
        // SECOND 299 is the phase 0 of cycle 13: a row of one.
        t.due("the last has one SECOND", Tester.made(Texts.first(23, 5, 0, 0)).day(4), 14);
        t.due("none is green", Tester.made(Texts.first(10, 9, 1, 0)).day(4), 0);
        String start = Texts.first(100, 10, 0, 0) + Texts.kind("k", 0, 1, 0);
        t.due("one in the first SECOND of a row", Tester.made(start + Texts.come("k", 100)).day(4), 2);
        t.due("one in the last SECOND of a row", Tester.made(start + Texts.come("k", 109)).day(4), 2);
        t.due("one behind a row", Tester.made(start + Texts.come("k", 110)).day(4), 2);
        t.due("one in SECOND 0", Tester.made(start + Texts.come("k", 0)).day(4), 2);
        t.due("two in one row", Tester.made(start + Texts.come("k", 100, 105)).day(4), 2);
        t.due("one in each row", Tester.made(start + Texts.come("k", 0, 100, 199)).day(4), 0);
        // Who goes by green does not cross by it.
        String slow = Texts.first(100, 10, 0, 0) + Texts.kind("k", 0, 11, 0);
        t.due("one goes by green", Tester.made(slow + Texts.come("k", 105) + "red all;").day(4), 3);
        // By the button: a green that nobody gets.
        String button = Texts.first(100, 10, 1, 0) + Texts.kind("k", 0, 11, 1);
        t.due("too slow for it", Tester.made(button + Texts.come("k", 5)).day(4), 1);
        t.due("another gets it", Tester.made(button + Texts.kind("l", 0, 1, 0)
            + "comes a is k at 5;comes b is l at 14;").day(4), 0);
        t.due("another comes behind it", Tester.made(button + Texts.kind("l", 0, 1, 0)
            + "comes a is k at 5;comes b is l at 15;").day(4), 1);
    }

    private static void bestIs(String name, PressAndWait x, int harmed, int rule, int green, int waited) {
        t.due(name + ": best(" + harmed + ", 0)", x.best(harmed, 0), rule);
        t.due(name + ": best(" + harmed + ", 1)", x.best(harmed, 1), green);
        t.due(name + ": best(" + harmed + ", 2)", x.best(harmed, 2), waited);
    }

    private static PressAndWait one(int cycle, int rule, int pace, int trusts, int second, String rest) {
        return Tester.made(Texts.first(cycle, 1, rule, 0) + Texts.kind("k", 0, pace, trusts) + Texts.come("k", second) + rest);
    }

    private static void bestGreens() {
        t.says("Term III", "BEST is the RULE and the green (1 .. 40, below the cycle) by which, on this DAY,");
        bestIs("1 is enough", one(120, 0, 1, 0, 0, ""), 0, 0, 1, 0);
        bestIs("39", one(120, 0, 20, 0, 19, ""), 0, 0, 39, 0);
        bestIs("40", one(120, 0, 20, 0, 20, ""), 0, 0, 40, 0);
        bestIs("41 would be needed", one(120, 0, 20, 0, 21, ""), 0, 0, 20, 99);
        bestIs("41 is below the cycle", one(42, 0, 20, 0, 21, ""), 0, 0, 20, 21);
        bestIs("40, below the cycle", one(41, 0, 20, 0, 20, ""), 0, 0, 40, 0);
        bestIs("40, not below the cycle", one(40, 0, 20, 0, 20, ""), 0, 0, 20, 20);
        bestIs("39, below the cycle", one(40, 0, 20, 0, 19, ""), 0, 0, 39, 0);
        bestIs("9, below the cycle", one(10, 0, 9, 0, 0, ""), 0, 0, 9, 0);
        bestIs("10, not below the cycle", one(10, 0, 10, 0, 0, ""), 0, 0, 1, 300);
        // On this DAY: by the beliefs of now, whatever RULE and green are now.
        PressAndWait x = one(120, 2, 20, 1, 30, "");
        bestIs("by the button", x, 0, 1, 20, 0);
        x.rule(0);
        x.green(60);
        bestIs("by the button, whatever is now", x, 0, 1, 20, 0);
        x.trust(0, 0);
        bestIs("without belief", x, 0, 0, 20, 90);
        x = one(120, 0, 20, 0, 20, "red day=1;");
        x.days(1);
        bestIs("on the next DAY he goes", x, 0, 0, 1, 0);
    }

    private static void bestHarmed() {
        t.says("Term III", "none more is HARMED than a number, and least is waited;");
        // Walker w comes at SECOND w: by a green of w and less he goes at once, and is harmed.
        PressAndWait x = Tester.made(Texts.first(120, 1, 0, 0) + Texts.kind("k", 0, 1, 0)
            + Texts.come("k", 0, 1, 2, 3, 4, 5, 6, 7, 8, 9, 10, 11) + "car all;red all;");
        for (int harmed = 0; harmed <= 12; harmed++) {
            bestIs("one more each SECOND", x, harmed, 0, Math.max(1, 12 - harmed), 0);
        }
        // All are harmed by each: 11 are too few.
        x = Tester.made(Texts.first(10, 1, 0, 0) + Texts.kind("k", 0, 10, 0) + Texts.twelve("k", 3) + "car all;red all;");
        bestIs("all harmed", x, 12, 0, 1, 0);
        bestIs("all harmed", x, 11, -1, -1, -1);
        bestIs("all harmed", x, 0, -1, -1, -1);
        // Fewer harmed is longer waited: 0 waits for the green, 1 goes.
        x = Tester.made(Texts.first(60, 1, 0, 0) + Texts.kind("k", 0, 5, 0) + Texts.come("k", 55)
            + "car second=56;red second=55;");
        bestIs("he goes by all", x, 1, 0, 1, 0);
        bestIs("he goes by all", x, 0, -1, -1, -1);
        x = Tester.made(Texts.first(60, 1, 0, 0) + Texts.kind("k", 0, 5, 1) + Texts.come("k", 50, 57)
            + "car second>49 and second<56;red second>51 and second<54;");
        // By the button each gets a green of his own at once.
        bestIs("by the button", x, 0, 1, 5, 0);
        x.trust(0, 0);
        // By red one goes at 52, harmed; none can be spared, and the other waits till 60 for a green of 5.
        bestIs("one harmed", x, 1, 0, 5, 2 + 3);
        bestIs("none harmed", x, 0, -1, -1, -1);
    }

    private static void bestOfLikeOnes() {
        t.says("Term III", "of like ones the least green, then the RULE.");
        bestIs("nobody", Tester.made(Texts.first(120, 60, 2, 0)), 0, 0, 1, 0);
        bestIs("nobody", Tester.made(Texts.first(10, 9, 2, 0)), 12, 0, 1, 0);
        // At 0 all RULES do: the least green, RULE 0.
        bestIs("at 0", one(120, 2, 7, 1, 0, ""), 0, 0, 7, 0);
        // At 5 with pace 5: by RULE 1 a green of 5, by RULE 0 one of 10.
        bestIs("green ahead of RULE", one(120, 0, 5, 1, 5, ""), 0, 1, 5, 0);
        // By RULE 0 he crosses and the other waits; by RULES 1 and 2 alike he goes, the other follows.
        PressAndWait x = Tester.made(Texts.first(60, 1, 0, 0) + Texts.kind("k", 0, 1, 0) + Texts.come("k", 0, 50)
            + "red second=0 or reds>0;");
        bestIs("RULE 1 ahead of 2", x, 0, 1, 1, 0);
        // What is waited goes ahead of both.
        x = Tester.made(Texts.first(60, 1, 0, 0) + Texts.kind("k", 0, 1, 0) + Texts.come("k", 39));
        bestIs("less is waited", x, 0, 0, 40, 0);
    }

    private static void leastGreens() {
        t.says("Term III", "The LEAST green (1 .. 60, below the cycle) by this RULE");
        t.due("nobody", Tester.made(Texts.first(10, 9, 0, 0)).least(), 1);
        t.due("1", one(120, 0, 1, 0, 0, "").least(), 1);
        t.due("2", one(120, 0, 2, 0, 0, "").least(), 2);
        t.due("59", one(120, 0, 20, 0, 39, "red all;").least(), 59);
        t.due("60", one(120, 0, 20, 0, 40, "red all;").least(), 60);
        t.due("61", one(120, 0, 20, 0, 41, "red all;").least(), -1);
        t.due("60, below the cycle", one(61, 0, 20, 0, 40, "red all;").least(), 60);
        t.due("60, not below the cycle", one(60, 0, 20, 0, 40, "red all;").least(), -1);
        t.due("59, below the cycle", one(60, 0, 20, 0, 39, "red all;").least(), 59);
        t.due("9, below the cycle", one(10, 0, 9, 0, 0, "").least(), 9);
        t.due("10, not below the cycle", one(10, 0, 10, 0, 0, "").least(), -1);
        PressAndWait x = one(120, 0, 20, 1, 41, "red all;");
        t.due("by RULE 0", x.least(), -1);
        x.rule(1);
        t.due("by RULE 1", x.least(), 20);
        x.rule(2);
        t.due("by RULE 2", x.least(), -1);
        x.trust(0, 0);
        x.rule(1);
        t.due("by RULE 1 without belief", x.least(), -1);
    }

    private static void leastAndAll() {
        t.says("Term III", "is one by which none GOES, all cross.");
        t.due("one does not cross", one(10, 0, 20, 0, 0, "").least(), -1);
        t.due("he goes by all", one(120, 0, 1, 0, 60, "red second=60;").least(), -1);
        t.due("he goes unless it is 11", one(120, 0, 1, 0, 10, "red second=10;").least(), 11);
        t.due("he waits and crosses", one(120, 0, 1, 0, 10, "").least(), 1);
        String start = Texts.first(120, 1, 0, 0) + Texts.kind("k", 0, 3, 0) + Texts.kind("l", 0, 20, 0);
        t.due("the slowest of two", Tester.made(start + "comes a is k at 0;comes b is l at 0;").least(), 20);
        t.due("all twelve", Tester.made(start + Texts.twelve("l", 5) + "red all;").least(), 25);
        t.due("the last of twelve", Tester.made(start + Texts.come("k", 0, 0, 0, 0, 0, 0, 0, 0, 0, 0, 0, 9)
            + "red all;").least(), 12);
    }

    private static void hold() {
        t.says("Term III", "HOLD is a set of WALKERS (3 at most) who never GO on this DAY, by whom none GOES: of the "
            + "fewest, of like ones the least bits.");
        String start = Texts.first(60, 5, 0, 0) + Texts.kind("k", 0, 5, 0);
        t.due("nobody", Tester.made(start).hold(), 0);
        t.due("none goes", Tester.made(start + Texts.twelve("k", 10)).hold(), 0);
        t.due("all cross", Tester.made(start + Texts.twelve("k", 0) + "red all;").hold(), 0);
        t.due("one goes", Tester.made(start + Texts.come("k", 0, 0, 10) + "red all;").hold(), 4);
        t.due("two go", Tester.made(start + Texts.come("k", 10, 0, 10) + "red all;").hold(), 5);
        t.due("three go", Tester.made(start + Texts.come("k", 10, 0, 10, 10) + "red all;").hold(), 13);
        t.due("four go", Tester.made(start + Texts.come("k", 10, 10, 10, 10) + "red all;").hold(), -1);
        t.due("twelve go", Tester.made(start + Texts.twelve("k", 10) + "red all;").hold(), -1);
        t.due("the last three of twelve", Tester.made(start + Texts.come("k", 0, 0, 0, 0, 0, 0, 0, 0, 0, 10, 10, 10)
            + "red all;").hold(), 512 + 1024 + 2048);
        t.due("the last four of twelve", Tester.made(start + Texts.come("k", 0, 0, 0, 0, 0, 0, 0, 0, 10, 10, 10, 10)
            + "red all;").hold(), -1);
        // Twelve go, but eleven of them follow the first: he is enough.
        t.due("one draws all", Tester.made(start + Texts.come("k", 20, 20, 20, 20, 20, 20, 10, 20, 20, 20, 20, 20)
            + "red second=10 or reds>0;").hold(), 64);
        // Who is held lets others be who would go with none gone: these must be held, too.
        t.due("one after the other", Tester.made(start + Texts.come("k", 10, 10, 10) + "red reds<1;").hold(), 7);
        t.due("with none gone", Tester.made(start + Texts.come("k", 10, 10) + "red reds=0;").hold(), 3);
        t.due("with one gone", Tester.made(start + Texts.come("k", 10, 10) + "red reds=1;").hold(), 0);
        t.due("one after the other, four", Tester.made(start + Texts.come("k", 10, 10, 10, 10) + "red reds<1;").hold(), -1);
        // In the last SECOND, and by a green that does not last.
        String never = Texts.first(60, 5, 1, 0) + Texts.kind("k", 0, 5, 0);
        t.due("in SECOND 299", Tester.made(never + Texts.come("k", 0) + "red second=299;").hold(), 1);
        t.due("in SECOND 300", Tester.made(never + Texts.come("k", 0) + "red second=300;").hold(), 0);
        t.due("by green", Tester.made(start + Texts.come("k", 1) + "red second<5;").hold(), 1);
        PressAndWait x = Tester.made(start + Texts.come("k", 10) + "red day=1;");
        t.due("on DAY 0", x.hold(), 0);
        x.days(1);
        t.due("on DAY 1", x.hold(), 1);
    }

    private static void ahead() {
        t.says("Term III", "AHEAD are DAYS as they come from now on without DRAWS (30 at most, not beyond DAY 999).");
        String text = Texts.first(60, 10, 1, 0) + Texts.kind("k", 0, 5, 0) + Texts.come("k", 20)
            + "car day>28;red day>0;away 100;";
        PressAndWait x = Tester.made(text);
        t.due("DAY 0", x.later(0, 1), 0);
        t.due("DAY 1", x.later(1, 1), 1);
        t.due("DAY 28", x.later(28, 2), 0);
        t.due("DAY 29", x.later(29, 2), 1);
        t.due("DAY 30", x.later(30, 2), -1);
        int[][] last = {{969, 29, 30}, {970, 29, 30}, {971, 28, 29}, {998, 1, 2}, {999, 0, 1}};
        for (int[] run : last) {
            Tester.on(x, Tester.image(run[0], 1, 10, 0));
            t.due("from DAY " + run[0] + ", later(" + run[1] + ", 1)", x.later(run[1], 1), 1);
            t.due("from DAY " + run[0] + ", later(" + run[2] + ", 1)", x.later(run[2], 1), -1);
        }
        // Without DRAWS: the seed is as it was.
        PressAndWait y = Tester.made(text.replace("100", "50"));
        PressAndWait z = Tester.made(text.replace("100", "50"));
        y.later(29, 0);
        y.doubts(0);
        t.due("all came", y.later(29, 1), 1);
        t.due("by the same seed", y.chance(20), z.chance(20));
    }

    private static void fitsAre(String name, PressAndWait x, int count, int rules, int green) {
        t.due(name + ": fits(0)", x.fits(0), count);
        t.due(name + ": fits(1)", x.fits(1), rules);
        t.due(name + ": fits(2)", x.fits(2), green);
    }

    private static void seen() {
        t.says("Term III", "SEEN are rows of WALKER, SECOND (two bytes; 65535: not at all) in which he crossed or went "
            + "on this DAY:");
        PressAndWait x = one(120, 0, 1, 0, 0, "");
        Tester.see(x, 0, 0, 0);
        fitsAre("crossed in SECOND 0", x, 20, 1, 1);
        Tester.see(x, 0, 255, 255);
        fitsAre("not at all", x, 40, 6, 1);
        Tester.see(x, 0, 0, 1);
        fitsAre("in SECOND 1", x, 0, 0, -1);
        x = one(120, 0, 1, 0, 0, "red second=299;");
        Tester.see(x, 0, 1, 43);
        fitsAre("went in SECOND 299", x, 40, 6, 1);
        Tester.see(x, 0, 255, 255);
        fitsAre("not at all", x, 0, 0, -1);
        x = one(120, 0, 1, 0, 0, "red second=255 or second=256;");
        Tester.see(x, 0, 0, 255);
        fitsAre("went in SECOND 255", x, 40, 6, 1);
        x = one(120, 0, 1, 0, 0, "red second=256;");
        Tester.see(x, 0, 1, 0);
        fitsAre("went in SECOND 256, the higher byte first", x, 40, 6, 1);
        Tester.see(x, 0, 0, 1);
        fitsAre("the other way round", x, 0, 0, -1);
        // All rows must be so; the same row twice is no more than once.
        x = Tester.made(Texts.first(120, 1, 0, 0) + Texts.kind("k", 0, 1, 0) + Texts.come("k", 0, 5));
        Tester.see(x, 0, 0, 0, 1, 0, 5);
        fitsAre("both", x, 15, 1, 6);
        Tester.see(x, 1, 0, 5, 1, 0, 5);
        fitsAre("twice", x, 15, 1, 6);
        Tester.see(x, 0, 0, 0, 1, 0, 6);
        fitsAre("one is not so", x, 0, 0, -1);
        // On this DAY.
        x = one(120, 0, 1, 0, 50, "red day=1;");
        Tester.see(x, 0, 0, 50);
        fitsAre("on DAY 0", x, 0, 0, -1);
        x.days(1);
        fitsAre("on DAY 1", x, 60, 7, 1);
        t.due("a row is kept", x.has(6), 1);
    }

    private static void seenGreens() {
        t.says("Term III", "RULES and greens (1 .. 20, below the cycle) by which all is so.");
        int[][] cycles = {{10, 27}, {11, 30}, {20, 57}, {21, 60}, {22, 60}, {120, 60}};
        for (int[] run : cycles) {
            fitsAre("cycle " + run[0], Tester.made(Texts.first(run[0], 1, 0, 0)), run[1], 7, 1);
        }
        // Pace 20 in SECOND 0 needs a green of 20, pace 19 in SECOND 1, too; one later needs 21.
        int[][] runs = {{120, 20, 0, 1, 20}, {21, 20, 0, 1, 20}, {20, 20, 0, 0, -1}, {120, 19, 1, 1, 20}, {120, 19, 2, 0, -1},
            {20, 19, 0, 1, 19}, {120, 19, 0, 2, 19}, {120, 1, 0, 20, 1}};
        for (int[] run : runs) {
            PressAndWait x = one(run[0], 0, run[1], 0, run[2], "");
            Tester.see(x, 0, 0, run[2]);
            String name = "cycle " + run[0] + ", pace " + run[1] + " in " + run[2];
            fitsAre(name, x, run[3], run[3] > 0 ? 1 : 0, run[4]);
        }
    }

    private static void watchedIs(String name, PressAndWait x, int walker, int left) {
        t.due(name + ": watched(0)", x.watched(0), walker);
        t.due(name + ": watched(1)", x.watched(1), left);
    }

    private static void watched() {
        t.says("Term III", "WATCHED is the WALKER by whose SECOND, whatever it is, the most of these left are fewest; "
            + "of like ones the first.");
        String start = Texts.first(120, 1, 0, 0) + Texts.kind("k", 0, 1, 0);
        watchedIs("nobody", Tester.made(start), -1, -1);
        // By the clock alone; at 0: 20 at once, 40 not at all. At 10: 10 at once, 10 at 120, 40 not at all.
        watchedIs("one", Tester.made(start + Texts.come("k", 0)), 0, 40);
        watchedIs("of like ones", Tester.made(start + Texts.come("k", 0, 10)), 0, 40);
        PressAndWait x = Tester.made(start + Texts.come("k", 0, 10, 5, 10));
        Tester.see(x, 0, 0, 0);
        // Left are 20: at 10 it is 10 and 10, at 5 it is 15 and 5.
        watchedIs("the fewest at the most", x, 1, 10);
        Tester.see(x, 0, 0, 0, 1, 0, 10);
        watchedIs("all alike", x, 0, 10);
        Tester.see(x, 2, 0, 5, 1, 0, 120);
        // Left are the greens 6 to 10: each walker tells all of them alike.
        watchedIs("five are left", x, 0, 5);
        Tester.see(x, 0, 0, 7);
        watchedIs("none is left", x, -1, -1);
        // The last of twelve.
        x = Tester.made(start + Texts.come("k", 0, 0, 0, 0, 0, 0, 0, 0, 0, 0, 0, 10));
        Tester.see(x, 0, 0, 0);
        watchedIs("the last of twelve", x, 11, 10);
        // Greens 1 to 20 told apart one by one by him: one is left.
        x = Tester.made(Texts.first(120, 1, 0, 0) + Texts.kind("k", 0, 20, 0) + Texts.kind("l", 0, 1, 0)
            + "comes a is k at 0;comes b is l at 19;");
        Tester.see(x, 0, 0, 0);
        watchedIs("one is left", x, 0, 1);
    }
}
