/** Promises 9 to 15: what the light is, when cars come, what each walker does, and what is best. */
public final class DayTest {
    private static final Tester t = new Tester("DayTest");

    public static void main(String[] args) {
        withoutCrossing();
        byTheClock();
        byTheButton();
        byBoth();
        cars();
        goingAtRed();
        harm();
        facts();
        arithmetic();
        endOfDay();
        best();
        least();
        hold();
        t.finish();
    }

    private static void withoutCrossing() {
        PressAndWait x = new PressAndWait();
        t.due("light", x.light(0), -1);
        t.due("car", x.car(0), -1);
        t.due("day", x.day(0), -1);
        t.due("best", x.best(0, 0), -1);
        t.due("least", x.least(), -1);
        t.due("hold", x.hold(), -1);
        t.due("walker", x.walker(0, 0), -1);
    }

    private static void byTheClock() {
        PressAndWait x = Tester.made(Texts.first(90, 40, 0, 5) + Texts.kind("k", 0, 5, 1)
            + Texts.come("k", 0, 35, 36, 40, 41, 199));
        Looks.greenIn(t, "clock", x, 0, 39, 90, 129, 180, 219, 270, 299);
        // 35 has five seconds of green left, 36 has four; 40 comes behind a green second.
        Looks.leaves(t, "clock", x, 0, 35, 90, 90, 90, 199);
        Looks.dayIs(t, "clock", x, 54 + 50 + 49, 0, 0, 0, 1, 2);
        t.due("a presses at SECOND 0", x.walker(0, 6), 1);
        t.due("b comes by green", x.walker(1, 6), 0);
        t.due("d comes behind green", x.walker(3, 6), 0);
        t.due("e presses", x.walker(4, 6), 1);
        x.trust(0, 0);
        t.due("without belief none presses", x.day(5), 0);
        Looks.leaves(t, "clock, no belief", x, 0, 35, 90, 90, 90, 199);
    }

    private static void byTheButton() {
        String walkers = Texts.kind("k", 0, 2, 1) + Texts.come("k", 2, 6, 7, 8, 9, 30);
        PressAndWait x = Tester.made(Texts.first(20, 3, 1, 5) + walkers);
        Looks.greenIn(t, "button", x, 5, 7, 13, 15, 30, 32);
        Looks.leaves(t, "button", x, 5, 6, 13, 13, 13, 30);
        Looks.dayIs(t, "button", x, 3 + 6 + 5 + 4, 0, 0, 0, 0, 3);
        Looks.presses(t, "button", x, 1, 0, 0, 0, 1, 1);
        x = Tester.made(Texts.first(20, 3, 1, 5) + walkers);
        x.trust(0, 0);
        Looks.greenIn(t, "button, no belief", x);
        Looks.dayIs(t, "button, no belief", x, 6 * 300 - 62, 0, 0, 6, 0, 0);

        x = Tester.made(Texts.first(10, 9, 1, 0) + Texts.kind("k", 0, 9, 9) + Texts.come("k", 0, 1, 9, 10));
        // The last one presses at 10, as the light was red in 9.
        Looks.greenIn(t, "least 0", x, 0, 8, 10, 18);
        Looks.leaves(t, "least 0", x, 0, 10, 10, 10);

        x = Tester.made(Texts.first(10, 1, 1, 99) + Texts.kind("k", 0, 1, 9) + Texts.come("k", 0, 99, 100, 101));
        Looks.greenIn(t, "least 99", x, 99, 99, 199, 199);
        Looks.leaves(t, "least 99", x, 99, 99, 199, 199);
        Looks.dayIs(t, "least 99", x, 99 + 99 + 98, 0, 0, 0, 0, 3);

        x = Tester.made(Texts.first(10, 5, 1, 0) + Texts.kind("k", 0, 6, 9) + Texts.come("k", 0, 20));
        // A green that is too short for who pressed is gone for him; nobody presses again.
        Looks.greenIn(t, "too short", x, 0, 4, 20, 24);
        Looks.dayIs(t, "too short", x, 300 + 280, 0, 0, 2, 2, 2);
    }

    private static void byBoth() {
        PressAndWait x = Tester.made(Texts.first(10, 4, 2, 9) + Texts.kind("k", 0, 2, 1) + Texts.come("k", 10, 12, 13, 14, 25));
        Looks.greenIn(t, "both", x, 10, 13, 30, 33);
        Looks.leaves(t, "both", x, 10, 12, 30, 30, 30);
        Looks.dayIs(t, "both", x, 17 + 16 + 5, 0, 0, 0, 0, 2);
        x = Tester.made(Texts.first(10, 4, 2, 9) + Texts.kind("k", 0, 5, 1) + Texts.come("k", 0));
        Looks.greenIn(t, "both at 0", x, 0, 3);
        Looks.dayIs(t, "both at 0", x, 300, 0, 0, 1, 1, 1);
        x = Tester.made(Texts.first(10, 9, 2, 9) + Texts.kind("k", 0, 1, 1) + Texts.come("k", 8, 9, 19));
        // 8 presses by red, for cycle 1; 19 comes behind the green second 18.
        Looks.greenIn(t, "both, green 9", x, 10, 18);
        Looks.leaves(t, "both, green 9", x, 10, 10, -1);
    }

    private static void cars() {
        PressAndWait x = Tester.made(Texts.first(30, 4, 0, 0) + "car phase=7 or second>317 and second<319 or day=1;");
        for (int s = 0; s < 320; s++) {
            t.due("car(" + s + ")", x.car(s), s % 30 == 7 || s == 318 ? 1 : 0);
        }
        t.due("car(320)", x.car(320), -1);
        t.due("car(-1)", x.car(-1), -1);
        x.days(1);
        t.due("on DAY 1", x.car(0), 1);
        x.undo();
        t.due("on DAY 0 again", x.car(0), 0);
        t.due("no car told", Tester.made(Texts.first(30, 4, 0, 0)).car(7), 0);
    }

    private static void goingAtRed() {
        PressAndWait x = Tester.made(Texts.first(50, 4, 0, 0) + Texts.kind("k", 3, 5, 0) + Texts.come("k", 0, 10)
            + "red waited>calm;");
        // Also by green, when it does not last.
        Looks.leaves(t, "red", x, 4, 14);
        Looks.dayIs(t, "red", x, 8, 2, 0, 0, 6, 0);
        x = Tester.made(Texts.first(50, 4, 0, 0) + Texts.kind("k", 3, 5, 0) + Texts.come("k", 0) + "red second=2;");
        Looks.leaves(t, "by green", x, 2);
        // He goes in a green second, yet does not cross by it.
        Looks.dayIs(t, "by green", x, 2, 1, 0, 0, 6, 0);
        x = Tester.made(Texts.first(50, 4, 0, 0) + Texts.kind("k", 3, 4, 0) + Texts.come("k", 0) + "red all;");
        Looks.dayIs(t, "who can cross does not go", x, 0, 0, 0, 0, 5, 0);
        x = Tester.made(Texts.first(50, 4, 0, 0) + Texts.kind("k", 3, 5, 0) + Texts.come("k", 10));
        Looks.dayIs(t, "without red never", x, 290, 0, 0, 1, 6, 0);
        x = Tester.made(Texts.first(50, 4, 0, 0) + Texts.kind("k", 3, 5, 0) + Texts.come("k", 10, 9, 10)
            + "red second>9 and reds<2;");
        // By numbers: the one who came last goes first.
        Looks.leaves(t, "by numbers", x, 10, 10, -1);
        x = Tester.made(Texts.first(50, 4, 0, 0) + Texts.kind("k", 3, 5, 0) + Texts.come("k", 10, 10, 10)
            + "red reds<1 and second=10 or reds=1 and second=11;");
        Looks.leaves(t, "reds", x, 10, 11, -1);
    }

    private static void harm() {
        int[][] runs = {{7, 3, 0}, {7, 4, 1}, {10, 1, 1}, {11, 20, 0}, {9, 1, 0}, {9, 2, 1}};
        for (int[] run : runs) {
            PressAndWait x = Tester.made(Texts.first(120, 1, 1, 0) + Texts.kind("k", 0, run[1], 0) + Texts.come("k", 0)
                + "car second=10;red second=" + run[0] + ";");
            t.due("goes at " + run[0], x.walker(0, 2), run[0]);
            t.due("GOES", x.walker(0, 4), 1);
            t.due("HARMED", x.walker(0, 5), run[2]);
            t.due("day(2)", x.day(2), run[2]);
        }
        int[][] late = {{318, 20, 1}, {318, 19, 0}, {319, 20, 0}, {299, 1, 1}, {298, 20, 0}};
        for (int[] run : late) {
            PressAndWait x = Tester.made(Texts.first(120, 1, 1, 0) + Texts.kind("k", 0, run[1], 0) + Texts.come("k", 199)
                + "car second=" + run[0] + ";red second=299;");
            t.due("goes at 299", x.walker(0, 2), 299);
            t.due("HARMED by " + run[0] + " with " + run[1], x.walker(0, 5), run[2]);
        }
        PressAndWait x = Tester.made(Texts.first(120, 4, 0, 0) + Texts.kind("k", 0, 2, 0) + Texts.come("k", 0)
            + "car all;red all;");
        t.due("who crosses is not HARMED", x.day(2), 0);
    }

    /** What a TEST of red is told: each in turn decides when one goes. */
    private static void facts() {
        String start = Texts.first(120, 1, 2, 0) + Texts.kind("k", 33, 7, 5) + Texts.come("k", 20) + "car second=100;";
        goesAt(start + "red second=31;", 31);
        goesAt(start + "red waited=11;", 31);
        goesAt(start + "red waited=calm;", 53);
        goesAt(start + "red waited=pace;", 27);
        goesAt(start + "red waited=trusts;", 20 + 5);
        goesAt(start + "red waited=5-day;", 25);
        goesAt(start + "red gap=19;", 81);
        goesAt(start + "red gap=20 and second>81;", 101);
        goesAt(start + "red gap>20;", -1);
        goesAt(start + "red gap=0;", 100);
        goesAt(start + "red waited>reds+3;", 24);
        goesAt(start + "red not second<40;", 40);
        goesAt(start + "red second=90 or second=80 and second=80;", 80);
        goesAt(start + "red second=90 and second=80 or second=70;", 70);
        goesAt(start + "red [second=90 or second=80]and second>80;", 90);
        goesAt(start + "red not second<40 and second>50;", 51);
        goesAt(start + "red not[second<40 or second<60];", 60);
        goesAt(start + "red not not second=44;", 44);
    }

    private static void goesAt(String text, int second) {
        t.due(text, Tester.made(text).walker(0, 2), second);
    }

    private static void sumIs(String sum, int want) {
        sumIs(sum, want < 0 ? "0-" + -want : "" + want);
    }

    private static void sumIs(String sum, String other) {
        PressAndWait x = Tester.made(Texts.first(120, 1, 2, 0) + "car " + sum + "=" + other + ";");
        t.due(sum + " = " + other, x.car(0), 1);
    }

    private static void arithmetic() {
        sumIs("7-2-1", 4);
        sumIs("2+3*4", 14);
        sumIs("(2+3)*4", 20);
        sumIs("24/4/2", 3);
        sumIs("24/4*2", 12);
        sumIs("7/2", 3);
        sumIs("(0-7)/2", -4);
        sumIs("7/(0-2)", -4);
        sumIs("(0-7)/(0-2)", 3);
        sumIs("(0-8)/2", -4);
        sumIs("9/0", 0);
        sumIs("9/(4-4)+1", 1);
        sumIs("min(3,5)+max(3,5)", 8);
        sumIs("min(0-3,5)", -3);
        sumIs("max(2*3,1+4)", 6);
        // Each step is held between -1000000 and 1000000.
        sumIs("9999*9999/1000", 1000);
        sumIs("1000*1000-1", "9999*100+99");
        sumIs("1000*1000+1", "1000*1000");
        sumIs("0-1000*1000-1", "0-1000*1000");
        sumIs("(0-9999)*9999/1000", -1000);
        sumIs("(9999*9999+9999)/1000", 1000);
        sumIs("(0-9999*9999-9999)/1000", -1000);
        sumIs("9999*9999-9999*9999", 0);
        sumIs("9999*9999*9999*9999/1000", 1000);
        sumIs("9999*100+9999*100-9999*100", "1000*1000-9999*100");
    }

    private static void endOfDay() {
        PressAndWait x = Tester.made(Texts.first(95, 20, 0, 0) + Texts.kind("k", 0, 20, 0) + Texts.come("k", 199));
        // The green from 285 on lasts 20 SECONDS, though the DAY ends ahead of them.
        Looks.leaves(t, "a green over the end", x, 285);
        Looks.dayIs(t, "a green over the end", x, 86, 0, 0, 0, 3, 0);
        x = Tester.made(Texts.first(120, 1, 0, 0) + Texts.kind("k", 0, 2, 0) + Texts.come("k", 0, 199));
        Looks.leaves(t, "not at all", x, -1, -1);
        Looks.dayIs(t, "not at all", x, 300 + 101, 0, 0, 2, 3, 0);
    }

    private static void bestIs(String name, PressAndWait x, int harmed, int rule, int green, int waited) {
        t.due(name + ": best(" + harmed + ", 0)", x.best(harmed, 0), rule);
        t.due(name + ": best(" + harmed + ", 1)", x.best(harmed, 1), green);
        t.due(name + ": best(" + harmed + ", 2)", x.best(harmed, 2), waited);
    }

    private static void best() {
        PressAndWait x = Tester.made(Texts.first(60, 5, 2, 0));
        bestIs("nobody", x, 0, 0, 1, 0);
        bestIs("nobody", x, 12, 0, 1, 0);
        t.due("best(13, 0)", x.best(13, 0), -1);
        t.due("best(-1, 0)", x.best(-1, 0), -1);
        t.due("best(0, 3)", x.best(0, 3), -1);
        t.due("best(0, -1)", x.best(0, -1), -1);
        // Who presses is let go at once by the button; by the clock a green of 36 would be needed.
        x = Tester.made(Texts.first(60, 5, 0, 0) + Texts.kind("k", 0, 6, 1) + Texts.come("k", 30));
        bestIs("the button", x, 0, 1, 6, 0);
        x.trust(0, 0);
        bestIs("no belief", x, 0, 0, 36, 0);
        // 40 is the most: beyond it a green of 46 would be better.
        x = Tester.made(Texts.first(60, 5, 0, 0) + Texts.kind("k", 0, 6, 0) + Texts.come("k", 40));
        bestIs("40 at most", x, 0, 0, 6, 20);
        // By no green below the cycle can one cross: he goes, and is harmed by all.
        x = Tester.made(Texts.first(10, 5, 0, 0) + Texts.kind("k", 0, 10, 0) + Texts.come("k", 1) + "car all;red waited=7;");
        bestIs("harmed by all", x, 0, -1, -1, -1);
        bestIs("harmed by all", x, 1, 0, 1, 7);
        // To be harmed is shorter than to wait.
        x = Tester.made(Texts.first(40, 1, 0, 0) + Texts.kind("k", 0, 10, 0) + Texts.come("k", 39) + "car second=39;red all;");
        bestIs("one harmed", x, 1, 0, 1, 0);
        bestIs("one harmed", x, 0, -1, -1, -1);
    }

    private static void least() {
        t.due("nobody", Tester.made(Texts.first(60, 5, 1, 0)).least(), 1);
        PressAndWait x = Tester.made(Texts.first(120, 5, 0, 0) + Texts.kind("k", 0, 10, 1) + Texts.come("k", 50));
        t.due("by the clock", x.least(), 10);
        x = Tester.made(Texts.first(120, 5, 0, 0) + Texts.kind("k", 9, 10, 1) + Texts.come("k", 50) + "red waited>calm;");
        t.due("60 at most", x.least(), 60);
        x = Tester.made(Texts.first(120, 5, 0, 0) + Texts.kind("k", 9, 10, 1) + Texts.come("k", 51) + "red waited>calm;");
        t.due("61 would be needed", x.least(), -1);
        x.rule(1);
        t.due("by the button", x.least(), 10);
        x = Tester.made(Texts.first(10, 5, 1, 0) + Texts.kind("k", 0, 10, 1) + Texts.come("k", 0));
        t.due("below the cycle", x.least(), -1);
        x = Tester.made(Texts.first(10, 5, 1, 0) + Texts.kind("k", 0, 9, 1) + Texts.come("k", 0));
        t.due("one below the cycle", x.least(), 9);
        x.trust(0, 0);
        t.due("never green", x.least(), -1);
    }

    private static void hold() {
        t.due("nobody", Tester.made(Texts.first(60, 5, 1, 0)).hold(), 0);
        String start = Texts.first(60, 5, 0, 0) + Texts.kind("k", 3, 5, 1);
        t.due("none goes", Tester.made(start + Texts.come("k", 10, 20)).hold(), 0);
        t.due("three go", Tester.made(start + Texts.come("k", 0, 20, 30, 40) + "red all;").hold(), 14);
        t.due("four go", Tester.made(start + Texts.come("k", 10, 20, 30, 40) + "red all;").hold(), -1);
        // Those who follow others need not be held.
        t.due("the first of a row", Tester.made(start + Texts.kind("l", 50, 5, 1) + Texts.come("l", 10, 20, 30, 40)
            + "comes z is k at 12;red waited>calm or reds>0;").hold(), 16);
        // One who would go by himself, but not behind others, must be held, too.
        t.due("both", Tester.made(start + Texts.come("k", 10, 20) + "red reds=0;").hold(), 3);
        t.due("goes later", Tester.made(start + Texts.come("k", 10, 20) + "red waited=39 and reds<5;").hold(), 3);
        t.due("crosses ahead", Tester.made(start + Texts.come("k", 10, 21) + "red waited=40;").hold(), 1);
    }
}
