/** Promises 10 to 15, sentence by sentence: the light, cars, what is told of a day, BEST, LEAST, HOLD. */
public final class Promises10To15Test {
    private static final Tester t = new Tester("Promises10To15Test");
    private static final int MIN = Integer.MIN_VALUE;
    private static final int MAX = Integer.MAX_VALUE;

    public static void main(String[] args) {
        light();
        car();
        day();
        best();
        least();
        hold();
        t.covers("Promise 10", "Promise 11", "Promise 12", "Promise 13", "Promise 14", "Promise 15");
        t.finish();
    }

    private static void none(String name, Twins.Call call) {
        Twins.answers(t, name, Twins::busy, call, -1);
    }

    private static void withoutCrossing(String name, Twins.Call call) {
        Twins.answers(t, name + " without a crossing", PressAndWait::new, call, -1);
        // A text with a FAULT is no crossing.
        Twins.answers(t, name + " behind a FAULT", () -> {
            PressAndWait x = new PressAndWait();
            Tester.crossing(x, Texts.PLAIN + "x");
            return x;
        }, call, -1);
    }

    private static void light() {
        t.says("Promise 10", "What the light is in a SECOND (0 .. 299) of this DAY: 1 green, 0 red;");
        PressAndWait x = Tester.made(Texts.first(23, 1, 0, 0));
        t.due("SECOND 0", x.light(0), 1);
        t.due("SECOND 1", x.light(1), 0);
        t.due("SECOND 298", x.light(298), 0);
        t.due("SECOND 299", x.light(299), 1);
        x.rule(1);
        t.due("by another RULE", x.light(299), 0);
        x.undo();
        x.green(2);
        t.due("by another green", x.light(1), 1);
        x = Tester.made(Texts.first(60, 5, 1, 0) + Texts.kind("k", 0, 5, 1) + Texts.come("k", 20) + "learns 0-1;");
        t.due("on this DAY", x.light(20), 1);
        x.days(1);
        t.due("on the next DAY", x.light(20), 0);
        x.undo();
        t.due("on this DAY again", x.light(20), 1);
        t.says("Promise 10", "NONE when there is none such, or without a crossing.");
        for (int second : new int[] {-1, 300, 301, 319, MIN, MAX}) {
            none("light(" + second + ")", y -> y.light(second));
        }
        for (int second : new int[] {0, 299, -1, 300}) {
            withoutCrossing("light(" + second + ")", y -> y.light(second));
        }
    }

    private static void car() {
        t.says("Promise 11", "Whether a car comes in a SECOND (0 .. 319): 1 or 0;");
        PressAndWait x = Tester.made(Texts.PLAIN + "car second=0 or second=299 or second=300 or second=319;");
        int[][] want = {{0, 1}, {1, 0}, {298, 0}, {299, 1}, {300, 1}, {301, 0}, {318, 0}, {319, 1}};
        for (int[] run : want) {
            t.due("car(" + run[0] + ")", x.car(run[0]), run[1]);
        }
        t.due("without a TEST", Tester.made(Texts.PLAIN).car(319), 0);
        t.says("Promise 11", "NONE when there is none such, or without a crossing.");
        for (int second : new int[] {-1, 320, 321, MIN, MAX}) {
            none("car(" + second + ")", y -> y.car(second));
        }
        for (int second : new int[] {0, 319, -1, 320}) {
            withoutCrossing("car(" + second + ")", y -> y.car(second));
        }
    }

    private static void day() {
        t.says("Promise 12", "Of this DAY: 0 SECONDS waited, 1 who GO, 2 who are HARMED, 3 who have not crossed, 4 "
            + "greens for NOBODY, 5 who press.");
        Looks.dayIs(t, "nobody", Tester.made(Texts.first(10, 1, 1, 0)), 0, 0, 0, 0, 0, 0);
        String kind = Texts.kind("k", 0, 20, 1);
        Looks.dayIs(t, "the longest", Tester.made(Texts.first(10, 1, 1, 0) + kind + Texts.twelve("k", 0)), 3600, 0, 0, 12, 1, 12);
        Looks.dayIs(t, "all harmed", Tester.made(Texts.first(10, 1, 0, 0) + kind + Texts.twelve("k", 2) + "car all;red all;"),
            0, 12, 12, 0, 30, 12);
        // Six numbers that are all unlike: of three who press two go, one waits all DAY; two more go, harmed.
        PressAndWait x = Tester.made(Texts.first(60, 5, 0, 0) + kind + Texts.kind("l", 0, 1, 0)
            + "comes a is k at 10;comes b is k at 10;comes c is k at 10;comes d is l at 70;comes e is l at 71;"
            + "car second=70 or second=71;red reds<2 and second=10 or waited=0 and second>69;");
        Looks.dayIs(t, "unlike", x, 290, 4, 2, 1, 5, 3);
        t.says("Promise 12", "NONE for others, or without a crossing.");
        for (int what : new int[] {-1, 6, 7, MIN, MAX}) {
            none("day(" + what + ")", y -> y.day(what));
        }
        for (int what : new int[] {0, 5, -1, 6}) {
            withoutCrossing("day(" + what + ")", y -> y.day(what));
        }
    }

    private static void best() {
        t.says("Promise 13", "BEST, so many HARMED at most (0 .. 12): the RULE (what 0), the green (1), what is waited "
            + "(2).");
        PressAndWait x = Tester.made(Texts.first(120, 1, 0, 0) + Texts.kind("k", 0, 1, 0)
            + Texts.come("k", 0, 1, 2, 3, 4, 5, 6, 7, 8, 9, 10, 11) + "car all;red all;");
        int[][] want = {{0, 0, 12, 0}, {1, 0, 11, 0}, {10, 0, 2, 0}, {11, 0, 1, 0}, {12, 0, 1, 0}};
        for (int[] run : want) {
            for (int what = 0; what < 3; what++) {
                t.due("best(" + run[0] + ", " + what + ")", x.best(run[0], what), run[1 + what]);
            }
        }
        x = Tester.made(Texts.first(60, 1, 0, 0) + Texts.kind("k", 0, 7, 1) + Texts.come("k", 50, 55) + "red waited>99;");
        // By the button: the first at once, the other by the same green of 12.
        int[] unlike = {1, 12, 0};
        for (int what = 0; what < 3; what++) {
            t.due("unlike: best(0, " + what + ")", x.best(0, what), unlike[what]);
        }
        t.says("Promise 13", "NONE when by none so few are, it can't be, without a crossing, or for others.");
        x = Tester.made(Texts.first(10, 1, 0, 0) + Texts.kind("k", 0, 10, 0) + Texts.twelve("k", 3) + "car all;red all;");
        for (int what = 0; what < 3; what++) {
            t.due("all are harmed: best(11, " + what + ")", x.best(11, what), -1);
            t.due("all are harmed: best(0, " + what + ")", x.best(0, what), -1);
        }
        t.due("all are harmed: best(12, 2)", x.best(12, 2), 0);
        int[][] others = {{-1, 0}, {13, 0}, {-1, 2}, {13, 2}, {MIN, 0}, {MAX, 0}, {0, -1}, {0, 3}, {12, 3}, {0, MIN}, {0, MAX}};
        for (int[] n : others) {
            none("best(" + n[0] + ", " + n[1] + ")", y -> y.best(n[0], n[1]));
        }
        withoutCrossing("best(0, 0)", y -> y.best(0, 0));
        withoutCrossing("best(12, 2)", y -> y.best(12, 2));
        // It changes nothing to ask for it.
        Twins.answers(t, "best(0, 0)", Twins::busy, y -> y.best(0, 0), Twins.busy().best(0, 0));
        x = Tester.made(Texts.first(60, 5, 2, 0) + Texts.kind("k", 0, 6, 1) + Texts.come("k", 30));
        int light = x.light(30);
        x.best(0, 0);
        t.due("the light is as it was", x.light(30), light);
        t.due("the RULE is as it was", x.has(4), 2);
    }

    private static void least() {
        t.says("Promise 14", "The LEAST green; NONE when there is none, or without a crossing.");
        String start = Texts.first(120, 5, 0, 0);
        t.due("nobody", Tester.made(start).least(), 1);
        t.due("60", Tester.made(start + Texts.kind("k", 0, 20, 0) + Texts.come("k", 40) + "red all;").least(), 60);
        t.due("61", Tester.made(start + Texts.kind("k", 0, 20, 0) + Texts.come("k", 41) + "red all;").least(), -1);
        t.due("never", Tester.made(Texts.first(120, 5, 1, 0) + Texts.kind("k", 0, 1, 0) + Texts.come("k", 0)).least(), -1);
        withoutCrossing("least()", y -> y.least());
        Twins.answers(t, "least()", Twins::busy, y -> y.least(), Twins.busy().least());
    }

    private static void hold() {
        t.says("Promise 15", "HOLD, as bits; NONE when 3 are not enough, or without a crossing.");
        String start = Texts.first(60, 5, 1, 0) + Texts.kind("k", 0, 5, 0) + Texts.kind("l", 0, 5, 1);
        t.due("nobody", Tester.made(start).hold(), 0);
        t.due("none goes", Tester.made(start + Texts.twelve("k", 10)).hold(), 0);
        // Those of the last three numbers go: by a kind of their own.
        String last = Texts.come("l", 10, 10, 10, 10, 10, 10, 10, 10);
        t.due("the last three", Tester.made(start + last + "comes a is l at 10;comes b is k at 20;comes c is k at 20;"
            + "comes d is k at 20;red all;").hold(), 512 + 1024 + 2048);
        t.due("the last four", Tester.made(start + last + "comes a is k at 20;comes b is k at 20;comes c is k at 20;"
            + "comes d is k at 20;red all;").hold(), -1);
        t.due("the first", Tester.made(start + "comes a is k at 20;comes b is l at 50;red all;").hold(), 1);
        withoutCrossing("hold()", y -> y.hold());
        Twins.answers(t, "hold()", Twins::busy, y -> y.hold(), Twins.busy().hold());
    }
}
