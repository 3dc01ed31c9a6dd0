/** Promises 21 to 27, sentence by sentence: acts, days by the seed, undoing, the seed. */
public final class Promises21To27Test {
    private static final Tester t = new Tester("Promises21To27Test");
    private static final int MIN = Integer.MIN_VALUE;
    private static final int MAX = Integer.MAX_VALUE;
    private static final String TEXT = Texts.first(30, 10, 1, 0) + Texts.kind("k", 0, 5, 4) + Texts.kind("l", 0, 5, 0)
        + "comes a is k at 20;comes b is l at 40;learns 0-1;";

    public static void main(String[] args) {
        rule();
        refusedRule();
        green();
        refusedGreen();
        trust();
        refusedTrust();
        days();
        refusedDays();
        chance();
        refusedChance();
        undo();
        refusedUndo();
        seed();
        refusedSeed();
        askedAhead();
        t.covers("Promise 21", "Promise 22", "Promise 23", "Promise 24", "Promise 25", "Promise 26", "Promise 27");
        t.finish();
    }

    private static PressAndWait made() {
        return Tester.made(TEXT);
    }

    private static PressAndWait on(String text, int... image) {
        PressAndWait x = Tester.made(text);
        t.due("on", Tester.on(x, image), true);
        return x;
    }

    /** Twenty ACTS behind it: a refused one must not push the oldest out. */
    private static PressAndWait fullOfActs() {
        PressAndWait x = made();
        for (int k = 0; k < 20; k++) {
            x.green(1 + k);
        }
        return x;
    }

    private static void refused(String name, Twins.Call call, long answer, int status) {
        Twins.refused(t, name, Promises21To27Test::made, call, answer, status);
        Twins.refused(t, name + ", with 20 ACTS", Promises21To27Test::fullOfActs, call, answer, status);
    }

    private static void withoutCrossing(String name, Twins.Call call, long answer, int status) {
        Twins.refused(t, name + " without a crossing", PressAndWait::new, call, answer, status);
    }

    private static void rule() {
        t.says("Promise 21", "Another RULE (0 .. 2): true;");
        for (int from = 0; from <= 2; from++) {
            for (int to = 0; to <= 2; to++) {
                PressAndWait x = Tester.made(Texts.first(30, 10, from, 0));
                t.due("from " + from + " to " + to, x.rule(to), from != to);
                Looks.state(t, "from " + from + " to " + to, x, 0, to, 10, from == to ? 0 : 1);
                t.due("status(2)", x.status(2), from == to ? 1 : 0);
            }
        }
    }

    private static void refusedRule() {
        t.says("Promise 21", "false, refused (2), when it is that, there is none such, or without a crossing.");
        for (int rule : new int[] {1, -1, 3, 4, MIN, MAX}) {
            refused("rule(" + rule + ")", y -> Tester.bit(y.rule(rule)), 0, 2);
        }
        for (int rule = -1; rule <= 3; rule++) {
            int asked = rule;
            withoutCrossing("rule(" + rule + ")", y -> Tester.bit(y.rule(asked)), 0, 2);
        }
        // That which is now, not that which was told.
        PressAndWait x = made();
        x.rule(2);
        t.due("rule(2) again", x.rule(2), false);
        t.due("rule(1)", x.rule(1), true);
        t.due("rule(1) again", x.rule(1), false);
        t.due("status(2)", x.status(2), 2);
    }

    private static void green() {
        t.says("Promise 22", "Another green (1 .. 60, below the cycle): true;");
        int[][] can = {{10, 1}, {10, 9}, {11, 10}, {60, 59}, {61, 60}, {62, 60}, {120, 59}, {120, 60}, {120, 1}};
        for (int[] run : can) {
            PressAndWait x = Tester.made(Texts.first(run[0], 5, 0, 0));
            t.due("cycle " + run[0] + ", green(" + run[1] + ")", x.green(run[1]), true);
            Looks.state(t, "cycle " + run[0], x, 0, 0, run[1], 1);
            t.due("its last SECOND", x.light(run[1] - 1), 1);
            t.due("behind it", x.light(run[1]), 0);
        }
    }

    private static void refusedGreen() {
        t.says("Promise 22", "false, refused (2), when it is that, it can't be, or without a crossing.");
        int[][] cannot = {{10, 10}, {10, 11}, {60, 60}, {61, 61}, {120, 61}, {120, 62}, {120, 120}, {120, 0},
            {120, -1}, {10, 0}, {10, 5}, {120, 5}};
        for (int[] run : cannot) {
            Twins.refused(t, "cycle " + run[0] + ", green(" + run[1] + ")", () -> Tester.made(Texts.first(run[0], 5, 0, 0)),
                y -> Tester.bit(y.green(run[1])), 0, 2);
        }
        refused("green(30)", y -> Tester.bit(y.green(30)), 0, 2);
        refused("green(0)", y -> Tester.bit(y.green(0)), 0, 2);
        refused("green(MIN)", y -> Tester.bit(y.green(MIN)), 0, 2);
        refused("green(MAX)", y -> Tester.bit(y.green(MAX)), 0, 2);
        for (int green : new int[] {0, 1, 60, -1}) {
            withoutCrossing("green(" + green + ")", y -> Tester.bit(y.green(green)), 0, 2);
        }
        PressAndWait x = made();
        x.green(11);
        t.due("green(11) again", x.green(11), false);
        t.due("green(10)", x.green(10), true);
        t.due("green(10) again", x.green(10), false);
        t.due("status(2)", x.status(2), 2);
    }

    private static void trust() {
        t.says("Promise 23", "A KIND trusts so (0 .. 9): true;");
        for (int trusts = 0; trusts <= 9; trusts++) {
            for (int kind : new int[] {0, 5}) {
                PressAndWait x = Tester.made(Texts.PLAIN + Texts.kinds(6, 0, 1, 5));
                t.due("trust(" + kind + ", " + trusts + ")", x.trust(kind, trusts), trusts != 5);
                for (int k = 0; k < 6; k++) {
                    t.due("kind(" + k + ", 2)", x.kind(k, 2), k == kind ? trusts : 5);
                }
                t.due("ACTS", x.has(7), trusts == 5 ? 0 : 1);
                t.due("status(2)", x.status(2), trusts == 5 ? 1 : 0);
            }
        }
    }

    private static void refusedTrust() {
        t.says("Promise 23", "false, refused (2), when it does, or there are none such.");
        int[][] cannot = {{0, 4}, {1, 0}, {-1, 5}, {2, 5}, {6, 5}, {MIN, 5}, {MAX, 5}, {0, -1}, {0, 10}, {0, 11},
            {0, MIN}, {0, MAX}, {1, 10}};
        for (int[] n : cannot) {
            refused("trust(" + n[0] + ", " + n[1] + ")", y -> Tester.bit(y.trust(n[0], n[1])), 0, 2);
        }
        Twins.refused(t, "the 7th of six", () -> Tester.made(Texts.PLAIN + Texts.kinds(6, 0, 1, 5)),
            y -> Tester.bit(y.trust(6, 1)), 0, 2);
        Twins.refused(t, "no KINDS", () -> Tester.made(Texts.PLAIN), y -> Tester.bit(y.trust(0, 1)), 0, 2);
        withoutCrossing("trust(0, 1)", y -> Tester.bit(y.trust(0, 1)), 0, 2);
        withoutCrossing("trust(0, 0)", y -> Tester.bit(y.trust(0, 0)), 0, 2);
        // As it trusts now, by what it has learnt.
        PressAndWait x = made();
        x.days(1);
        t.due("trust(0, 3): it does", x.trust(0, 3), false);
        t.due("trust(0, 4)", x.trust(0, 4), true);
        t.due("status(2)", x.status(2), 1);
    }

    private static void days() {
        t.says("Promise 24", "n DAYS (1 .. 30): SECONDS waited in them;");
        // While k trusts, a crosses at once and b waits 260; then a waits 280, too.
        for (int n : new int[] {1, 2, 4, 5, 29, 30}) {
            PressAndWait x = made();
            t.due("days(" + n + ")", x.days(n), Math.min(n, 4) * 260 + Math.max(n - 4, 0) * 540);
            Looks.state(t, "days(" + n + ")", x, n, 1, 10, 1);
            Looks.trusts(t, "days(" + n + ")", x, Math.max(4 - n, 0), 0);
            t.due("status(3)", x.status(3), 0);
        }
        PressAndWait x = Tester.made(Texts.first(10, 1, 1, 0) + Texts.kind("k", 0, 20, 0) + Texts.twelve("k", 0));
        t.due("the most that can be waited", x.days(30), 30 * 3600);
        t.due("nobody", Tester.made(Texts.PLAIN).days(30), 0);
        x = Tester.made(Texts.PLAIN + Texts.kind("k", 0, 6, 0) + Texts.twelve("k", 0));
        t.due("nothing is waited", x.days(1), 0);
        // As many one by one.
        PressAndWait y = made();
        PressAndWait z = made();
        int waited = 0;
        for (int k = 0; k < 30; k++) {
            waited += y.days(1);
        }
        t.due("one by one", waited, z.days(30));
        t.due("the DAY", y.has(3), z.has(3));
        // All come, whatever away is; nothing is drawn.
        y = Tester.made(TEXT + "away 100;");
        t.due("all come", y.days(2), 520);
        y = Tester.made(TEXT + "away 50;");
        z = Tester.made(TEXT + "away 50;");
        y.days(7);
        t.due("nothing is drawn", y.chance(20), z.chance(20));
    }

    private static void refusedDays() {
        t.says("Promise 24", "NONE, refused (3), when it can't be, or without a crossing.");
        for (int n : new int[] {0, -1, 31, 32, MIN, MAX}) {
            refused("days(" + n + ")", y -> y.days(n), -1, 3);
            withoutCrossing("days(" + n + ")", y -> y.days(n), -1, 3);
        }
        withoutCrossing("days(1)", y -> y.days(1), -1, 3);
        withoutCrossing("days(30)", y -> y.days(30), -1, 3);
        beyondTheLast("days", (x, n) -> x.days(n));
    }

    private interface Living {
        int live(PressAndWait x, int n);
    }

    private static void beyondTheLast(String name, Living living) {
        int[][] can = {{969, 30}, {970, 29}, {989, 10}, {998, 1}};
        for (int[] run : can) {
            PressAndWait x = on(TEXT, Tester.image(run[0], 1, 10, 0, 0));
            t.due(name + "(" + run[1] + ") on DAY " + run[0], living.live(x, run[1]) >= 0, true);
            Looks.state(t, name + "(" + run[1] + ") on DAY " + run[0], x, 999, 1, 10, 1);
        }
        int[][] cannot = {{970, 30}, {971, 29}, {990, 10}, {998, 2}, {999, 1}, {999, 30}};
        for (int[] run : cannot) {
            Twins.refused(t, name + "(" + run[1] + ") on DAY " + run[0],
                () -> on(TEXT + "away 50;", Tester.image(run[0], 1, 10, 3, 3)), y -> living.live(y, run[1]), -1, 3);
        }
    }

    private static int missing(long[] seed, int draws, int away) {
        int often = 0;
        for (int k = 0; k < draws; k++) {
            seed[0] = (1103515245L * seed[0] + 12345L) % 2147483648L;
            often += seed[0] / 64 % 100 < away ? 1 : 0;
        }
        return often;
    }

    private static void chance() {
        t.says("Promise 25", "n DAYS by the seed (1 .. 30), one ACT: how often one did not come;");
        for (int n : new int[] {1, 2, 29, 30}) {
            for (int away : new int[] {0, 1, 40, 99, 100}) {
                PressAndWait x = Tester.made(TEXT + "away " + away + ";");
                t.due("away " + away + ", chance(" + n + ")", x.chance(n), missing(new long[] {1}, 2 * n, away));
                t.due("the DAY", x.has(3), n);
                t.due("one ACT", x.has(7), 1);
                t.due("status(3)", x.status(3), 0);
                t.due("undo", x.undo(), true);
                Looks.state(t, "undone", x, 0, 1, 10, 0);
                Looks.trusts(t, "undone", x, 4, 0);
            }
        }
        PressAndWait x = Tester.made(Texts.PLAIN + Texts.kind("k", 0, 1, 1) + Texts.twelve("k", 0) + "away 100;");
        t.due("none comes, ever", x.chance(30), 360);
        t.due("on this DAY all come", x.day(5), 12);
        t.due("nobody", Tester.made(Texts.PLAIN + "away 100;").chance(30), 0);
        t.due("all come", Tester.made(TEXT).chance(30), 0);
    }

    private static void refusedChance() {
        t.says("Promise 25", "NONE, refused (3), when it can't be, or without a crossing.");
        for (int n : new int[] {0, -1, 31, 32, MIN, MAX}) {
            Twins.refused(t, "chance(" + n + ")", Twins::busy, y -> y.chance(n), -1, 3);
            refused("chance(" + n + ")", y -> y.chance(n), -1, 3);
            withoutCrossing("chance(" + n + ")", y -> y.chance(n), -1, 3);
        }
        withoutCrossing("chance(1)", y -> y.chance(1), -1, 3);
        withoutCrossing("chance(30)", y -> y.chance(30), -1, 3);
        beyondTheLast("chance", (x, n) -> x.chance(n));
    }

    private static void undo() {
        t.says("Promise 26", "The latest ACT is undone (the seed stays): true;");
        PressAndWait x = made();
        x.rule(0);
        x.green(29);
        x.trust(1, 9);
        x.days(30);
        x.chance(1);
        int[][] want = {{30, 0, 29, 0, 0}, {0, 0, 29, 4, 9}, {0, 0, 29, 4, 0}, {0, 0, 10, 4, 0}, {0, 1, 10, 4, 0}};
        for (int k = 0; k < want.length; k++) {
            t.due("undo " + k, x.undo(), true);
            Looks.state(t, "undo " + k, x, want[k][0], want[k][1], want[k][2], 4 - k);
            Looks.trusts(t, "undo " + k, x, want[k][3], want[k][4]);
        }
        t.due("status(4)", x.status(4), 0);
        // What is undone is as if it had not been, but for the seed.
        Twins.alike(t, "undone", () -> {
            PressAndWait y = made();
            y.green(11);
            y.rule(2);
            y.undo();
            return y;
        }, () -> {
            PressAndWait y = made();
            y.green(11);
            return y;
        });
        long[] seed = {1};
        PressAndWait y = Tester.made(TEXT + "away 50;");
        t.due("chance(9)", y.chance(9), missing(seed, 18, 50));
        y.undo();
        t.due("the seed stays", y.chance(9), missing(seed, 18, 50));
        // A new ACT behind an undone one.
        x = made();
        for (int k = 0; k < 20; k++) {
            x.green(1 + k);
        }
        for (int k = 0; k < 5; k++) {
            x.undo();
        }
        x.rule(2);
        Looks.state(t, "15 and one", x, 0, 2, 15, 16);
        x.undo();
        Looks.state(t, "15", x, 0, 1, 15, 15);
    }

    private static void refusedUndo() {
        t.says("Promise 26", "false, refused (4), when none can be.");
        Twins.refused(t, "no ACT", Promises21To27Test::made, y -> Tester.bit(y.undo()), 0, 4);
        withoutCrossing("undo()", y -> Tester.bit(y.undo()), 0, 4);
        Twins.refused(t, "all undone", () -> {
            PressAndWait y = made();
            y.green(11);
            y.undo();
            return y;
        }, y -> Tester.bit(y.undo()), 0, 4);
        Twins.refused(t, "20 of 21 undone", () -> {
            PressAndWait y = made();
            for (int k = 0; k < 21; k++) {
                y.green(1 + k);
            }
            for (int k = 0; k < 20; k++) {
                y.undo();
            }
            return y;
        }, y -> Tester.bit(y.undo()), 0, 4);
        Twins.refused(t, "behind another crossing", () -> {
            PressAndWait y = made();
            y.green(11);
            Tester.crossing(y, TEXT);
            return y;
        }, y -> Tester.bit(y.undo()), 0, 4);
        Twins.refused(t, "behind an image", () -> {
            PressAndWait y = made();
            y.green(11);
            Tester.on(y, Tester.image(5, 1, 10, 1, 1));
            return y;
        }, y -> Tester.bit(y.undo()), 0, 4);
    }

    private static void seed() {
        t.says("Promise 27", "The seed: true;");
        for (int start : new int[] {0, 1, 2, 12345, MAX - 1, MAX}) {
            PressAndWait x = Tester.made(TEXT + "away 50;");
            t.due("seed(" + start + ")", x.seed(start), true);
            t.due("chance(30)", x.chance(30), missing(new long[] {start}, 60, 50));
            t.due("again seed(" + start + ")", x.seed(start), true);
            t.due("chance(30)", x.chance(30), missing(new long[] {start}, 60, 50));
            t.due("no ACT", x.has(7), 2);
            t.due("status(5)", x.status(5), 0);
        }
        // Ahead of a crossing, too.
        PressAndWait x = new PressAndWait();
        t.due("seed(99)", x.seed(99), true);
        Tester.crossing(x, TEXT + "away 50;");
        t.due("chance(30)", x.chance(30), missing(new long[] {99}, 60, 50));
        t.says("Promise 27", "(It is 1 at first.)");
        t.due("chance(30) at first", Tester.made(TEXT + "away 50;").chance(30), missing(new long[] {1}, 60, 50));
        // The first DRAW by 1 is floor(1103527590 / 64) mod 100 = 18.
        String one = Texts.PLAIN + Texts.kind("k", 0, 1, 1) + Texts.come("k", 0);
        t.due("18 is not below 18", Tester.made(one + "away 18;").chance(1), 0);
        t.due("18 is below 19", Tester.made(one + "away 19;").chance(1), 1);
    }

    private static void refusedSeed() {
        t.says("Promise 27", "false, refused (5), when it is below 0.");
        for (int seed : new int[] {-1, -2, MIN, MIN + 1}) {
            Twins.refused(t, "seed(" + seed + ")", Twins::busy, y -> Tester.bit(y.seed(seed)), 0, 5);
            withoutCrossing("seed(" + seed + ")", y -> Tester.bit(y.seed(seed)), 0, 5);
        }
        PressAndWait x = Tester.made(TEXT + "away 50;");
        x.seed(-1);
        t.due("it is 1 as it was", x.chance(30), missing(new long[] {1}, 60, 50));
    }

    /** Each ACT is told by all that is asked behind it, whatever was asked ahead of it. */
    private static void askedAhead() {
        t.says("Promise 21", "Another RULE (0 .. 2): true;");
        Twins.unswayed(t, "rule", Twins::busy, y -> Tester.bit(y.rule(0)));
        t.says("Promise 22", "Another green (1 .. 60, below the cycle): true;");
        Twins.unswayed(t, "green", Twins::busy, y -> Tester.bit(y.green(19)));
        t.says("Promise 23", "A KIND trusts so (0 .. 9): true;");
        Twins.unswayed(t, "trust", Twins::busy, y -> Tester.bit(y.trust(0, 0) && y.trust(0, 9)));
        Twins.unswayed(t, "trust of the last KIND", Twins::busy, y -> Tester.bit(y.trust(1, 0)));
        t.says("Promise 24", "n DAYS (1 .. 30): SECONDS waited in them;");
        Twins.unswayed(t, "days", Twins::busy, y -> y.days(1));
        Twins.unswayed(t, "thirty days", Twins::busy, y -> y.days(30));
        t.says("Promise 25", "n DAYS by the seed (1 .. 30), one ACT: how often one did not come;");
        for (int seed = 0; seed < 8; seed++) {
            int start = seed;
            Twins.unswayed(t, "chance by " + seed, () -> {
                PressAndWait x = Tester.made(TEXT + "red reds>0;away 50;");
                x.seed(start);
                return x;
            }, y -> y.chance(1));
        }
        t.says("Promise 26", "The latest ACT is undone (the seed stays): true;");
        Twins.unswayed(t, "undo", Twins::busy, y -> Tester.bit(y.undo()));
        Twins.unswayed(t, "undo of three", Twins::busy, y -> Tester.bit(y.undo() && y.undo() && y.undo()));
        Twins.unswayed(t, "undo of a green", () -> {
            PressAndWait x = made();
            x.green(3);
            return x;
        }, y -> Tester.bit(y.undo()));
    }
}
