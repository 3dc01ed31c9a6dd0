/** Promises 21 to 27: acts, days by the seed, undoing, and what is refused of them. */
public final class ActsTest {
    private static final Tester t = new Tester("ActsTest");
    private static final String FIRST = "cycle 30 green 10 rule 1 least 0;";
    private static final String TEXT = FIRST + "kind k calm 0 pace 5 trusts 4;kind l calm 0 pace 5 trusts 0;"
        + "comes a is k at 20;comes b is l at 40;learns 0-1;";

    public static void main(String[] args) {
        withoutCrossing();
        rules();
        greens();
        trusts();
        days();
        chance();
        seeds();
        undo();
        t.finish();
    }

    private static void withoutCrossing() {
        PressAndWait x = new PressAndWait();
        t.due("rule(1)", x.rule(1), false);
        t.due("green(5)", x.green(5), false);
        t.due("trust(0, 1)", x.trust(0, 1), false);
        t.due("days(1)", x.days(1), -1);
        t.due("chance(1)", x.chance(1), -1);
        t.due("undo()", x.undo(), false);
        t.due("status(2)", x.status(2), 3);
        t.due("status(3)", x.status(3), 2);
        t.due("status(4)", x.status(4), 1);
        t.due("seed(5)", x.seed(5), true);
        t.due("has(7)", x.has(7), 0);
    }

    private static void rules() {
        PressAndWait x = Tester.made(TEXT);
        t.due("rule(1) when it is that", x.rule(1), false);
        t.due("rule(3)", x.rule(3), false);
        t.due("rule(-1)", x.rule(-1), false);
        t.due("status(2)", x.status(2), 3);
        t.due("has(7)", x.has(7), 0);
        t.due("rule(0)", x.rule(0), true);
        t.due("has(4)", x.has(4), 0);
        t.due("light(0)", x.light(0), 1);
        t.due("rule(2)", x.rule(2), true);
        t.due("has(4)", x.has(4), 2);
        t.due("light(0)", x.light(0), 0);
        t.due("light(30)", x.light(30), 1);
        t.due("has(7)", x.has(7), 2);
    }

    private static void greens() {
        PressAndWait x = Tester.made(TEXT);
        t.due("green(10) when it is that", x.green(10), false);
        t.due("green(0)", x.green(0), false);
        t.due("green(30)", x.green(30), false);
        t.due("green(61)", x.green(61), false);
        t.due("green(-5)", x.green(-5), false);
        t.due("status(2)", x.status(2), 5);
        t.due("green(29)", x.green(29), true);
        t.due("has(5)", x.has(5), 29);
        t.due("light(48)", x.light(48), 1);
        t.due("light(49)", x.light(49), 0);
        t.due("green(1)", x.green(1), true);
        t.due("light(20)", x.light(20), 1);
        t.due("light(21)", x.light(21), 0);
        x = Tester.made("cycle 120 green 1 rule 0 least 0;");
        t.due("green(60)", x.green(60), true);
        t.due("green(61)", x.green(61), false);
    }

    private static void trusts() {
        PressAndWait x = Tester.made(TEXT);
        t.due("trust(0, 4) when it does", x.trust(0, 4), false);
        t.due("trust(2, 4)", x.trust(2, 4), false);
        t.due("trust(-1, 4)", x.trust(-1, 4), false);
        t.due("trust(0, 10)", x.trust(0, 10), false);
        t.due("trust(0, -1)", x.trust(0, -1), false);
        t.due("status(2)", x.status(2), 5);
        t.due("trust(1, 9)", x.trust(1, 9), true);
        t.due("kind(1, 2)", x.kind(1, 2), 9);
        t.due("kind(0, 2)", x.kind(0, 2), 4);
        t.due("b presses", x.walker(1, 6), 1);
        t.due("trust(1, 0)", x.trust(1, 0), true);
        t.due("b presses no more", x.walker(1, 6), 0);
    }

    private static void days() {
        PressAndWait x = Tester.made(TEXT);
        // While k trusts: a crosses at 20, b waits from 40 on for ever; then both do.
        t.due("days(0)", x.days(0), -1);
        t.due("days(31)", x.days(31), -1);
        t.due("days(-1)", x.days(-1), -1);
        t.due("status(3)", x.status(3), 3);
        t.due("has(7)", x.has(7), 0);
        t.due("days(1)", x.days(1), 260);
        t.due("has(3)", x.has(3), 1);
        t.due("kind(0, 2)", x.kind(0, 2), 3);
        t.due("days(5)", x.days(5), 3 * 260 + 2 * (280 + 260));
        t.due("has(3)", x.has(3), 6);
        t.due("kind(0, 2)", x.kind(0, 2), 0);
        t.due("has(7)", x.has(7), 2);
        t.due("undo", x.undo(), true);
        t.due("has(3)", x.has(3), 1);
        t.due("kind(0, 2)", x.kind(0, 2), 3);
        t.due("days(30)", x.days(30), 3 * 260 + 27 * 540);
        t.due("has(3)", x.has(3), 31);
        // Whatever away is, all come.
        x = Tester.made(FIRST + "kind k calm 0 pace 5 trusts 0;comes a is k at 20;away 100;");
        t.due("days(2)", x.days(2), 560);
    }

    /** How often a DRAW of 100 is below away; the first of them by this seed. */
    private static int below(long[] seed, int draws, int away) {
        int often = 0;
        for (int k = 0; k < draws; k++) {
            seed[0] = (1103515245L * seed[0] + 12345L) % 2147483648L;
            often += seed[0] / 64 % 100 < away ? 1 : 0;
        }
        return often;
    }

    private static void chance() {
        // The first DRAW by the seed 1 is floor(1103527590 / 64) mod 100 = 18.
        String one = FIRST + "kind k calm 0 pace 5 trusts 4;comes a is k at 20;learns 0-1;";
        PressAndWait x = Tester.made(one + "away 19;");
        t.due("18 is below 19", x.chance(1), 1);
        t.due("the DAY is one more", x.has(3), 1);
        t.due("who did not come learns nothing", x.kind(0, 2), 4);
        x = Tester.made(one + "away 18;");
        t.due("18 is not below 18", x.chance(1), 0);
        t.due("who came learns", x.kind(0, 2), 3);
        x = Tester.made(one);
        t.due("without away", x.chance(30), 0);
        x = Tester.made(one + "away 50;away 0;");
        t.due("the last away counts", x.chance(30), 0);
        x = Tester.made(one + "away 100;");
        t.due("none comes", x.chance(30), 30);
        t.due("kind(0, 2)", x.kind(0, 2), 4);
        t.due("this DAY all come", x.day(5), 1);
        t.due("chance(0)", x.chance(0), -1);
        t.due("chance(31)", x.chance(31), -1);
        t.due("status(3)", x.status(3), 2);
        t.due("one ACT", x.has(7), 1);
        t.due("undo", x.undo(), true);
        t.due("has(3)", x.has(3), 0);

        long[] seed = {1};
        x = Tester.made(TEXT + "comes c is k at 3;away 40;");
        for (int n = 1; n <= 12; n++) {
            t.due("chance(" + n + ")", x.chance(n), below(seed, 3 * n, 40));
        }
    }

    private static void seeds() {
        String one = FIRST + "kind k calm 0 pace 5 trusts 4;comes a is k at 20;comes b is k at 20;away 50;";
        PressAndWait x = Tester.made(one);
        t.due("seed(-1)", x.seed(-1), false);
        t.due("seed(MIN)", x.seed(Integer.MIN_VALUE), false);
        t.due("status(5)", x.status(5), 2);
        long[] seed = {1};
        t.due("by 1", x.chance(20), below(seed, 40, 50));
        t.due("seed(MAX)", x.seed(Integer.MAX_VALUE), true);
        seed[0] = Integer.MAX_VALUE;
        t.due("by MAX", x.chance(20), below(seed, 40, 50));
        t.due("seed(0)", x.seed(0), true);
        seed[0] = 0;
        t.due("by 0", x.chance(20), below(seed, 40, 50));
        t.due("no ACT", x.has(7), 3);
        // The seed stays: with undo(), with a new crossing, with refusals; with away 0 it moves on.
        t.due("undo", x.undo(), true);
        t.due("chance(99)", x.chance(99), -1);
        t.due("by what follows", x.chance(20), below(seed, 40, 50));
        t.due("another", Tester.crossing(x, one + "away 0;"), 6);
        t.due("away 0", x.chance(3), below(seed, 6, 0));
        t.due("again", Tester.crossing(x, one), 5);
        t.due("by what follows", x.chance(20), below(seed, 40, 50));
        t.due("a seed ahead of a crossing", new PressAndWait().seed(7), true);
    }

    private static void undo() {
        PressAndWait x = Tester.made(TEXT);
        t.due("none", x.undo(), false);
        t.due("status(4)", x.status(4), 1);
        x.green(5);
        x.rule(2);
        x.trust(1, 7);
        x.days(3);
        x.chance(2);
        t.due("has(7)", x.has(7), 5);
        int[][] want = {{3, 2, 5, 1, 4}, {0, 2, 5, 4, 7}, {0, 2, 5, 4, 0}, {0, 1, 5, 4, 0}, {0, 1, 10, 4, 0}};
        for (int k = 0; k < want.length; k++) {
            t.due("undo " + k, x.undo(), true);
            t.due("DAY " + k, x.has(3), want[k][0]);
            t.due("RULE " + k, x.has(4), want[k][1]);
            t.due("green " + k, x.has(5), want[k][2]);
            t.due("k trusts " + k, x.kind(0, 2), want[k][3]);
            t.due("l trusts " + k, x.kind(1, 2), want[k][4]);
            t.due("has(7) " + k, x.has(7), 4 - k);
        }
        t.due("none left", x.undo(), false);
        // Of 25 ACTS the last 20 can be undone, also when others come between.
        for (int k = 0; k < 25; k++) {
            x.green(1 + k % 2);
        }
        x.undo();
        x.undo();
        t.due("has(7)", x.has(7), 18);
        x.rule(0);
        x.rule(1);
        x.rule(0);
        t.due("has(7)", x.has(7), 20);
        for (int k = 0; k < 20; k++) {
            t.due("undo", x.undo(), true);
        }
        t.due("no more", x.undo(), false);
        t.due("RULE", x.has(4), 1);
        t.due("green", x.has(5), 2);
        // What is SEEN is no ACT.
        Tester.see(x, 0, 0, 1);
        t.due("has(7)", x.has(7), 0);
        x.green(4);
        x.undo();
        t.due("SEEN stays", x.has(6), 1);
    }
}
