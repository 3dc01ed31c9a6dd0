import java.math.BigInteger;

/** Term II, sentence by sentence: a day second by second, what is learnt behind it, acts and draws. */
public final class Term2Test {
    private static final Tester t = new Tester("Term2Test");

    public static void main(String[] args) {
        seconds();
        byTheClock();
        buttonAndLeast();
        buttonAndFirstGreen();
        buttonAndGreen();
        buttonAndPresses();
        byBoth();
        elseRed();
        pressing();
        orderOfASecond();
        crossing();
        going();
        harm();
        waiting();
        cars();
        notCrossed();
        learning();
        oneDayMore();
        acts();
        whoStaysAway();
        lastTwenty();
        draws();
        t.covers("Term II");
        t.finish();
    }

    private static void seconds() {
        t.says("Term II", "A DAY has SECONDS 0 .. 299.");
        PressAndWait x = Tester.made(Texts.first(99, 3, 0, 0) + Texts.kind("k", 0, 3, 0) + Texts.come("k", 0, 199));
        Looks.greenIn(t, "clock", x, 0, 2, 99, 101, 198, 200, 297, 299);
        Looks.leaves(t, "the first and the last that can be", x, 0, 297);
        String start = Texts.first(120, 1, 1, 0) + Texts.kind("k", 0, 1, 0) + Texts.come("k", 0, 199);
        Looks.leaves(t, "red at 0", Tester.made(start + "red second=0;"), 0, -1);
        Looks.leaves(t, "red at 298", Tester.made(start + "red second=298;"), 298, 298);
        Looks.leaves(t, "red at 299", Tester.made(start + "red second=299;"), 299, 299);
        Looks.leaves(t, "red at 300", Tester.made(start + "red second=300;"), -1, -1);
        Looks.leaves(t, "red behind 299", Tester.made(start + "red second>299;"), -1, -1);
    }

    private static void byTheClock() {
        t.says("Term II", "By RULE 0 the light is green in each SECOND whose phase is below the green.");
        int[][] runs = {{10, 1}, {10, 9}, {11, 10}, {60, 59}, {61, 60}, {120, 1}, {120, 60}, {20, 6}};
        for (int[] run : runs) {
            PressAndWait x = Tester.made(Texts.first(run[0], run[1], 0, 99));
            for (int s = 0; s < 300; s++) {
                t.due("cycle " + run[0] + ", green " + run[1] + ", light(" + s + ")", x.light(s),
                    s % run[0] < run[1] ? 1 : 0);
            }
        }
    }

    private static void buttonAndLeast() {
        t.says("Term II", "By RULE 1, while it is not green, it becomes green in a SECOND in which a press is OPEN, if "
            + "least SECONDS at least lie between that and the last green one");
        // Green 10 and 11. Between 11 and 15 lie three: 15 is the first that can be with least 3.
        int[][] runs = {{13, 15}, {14, 15}, {15, 15}, {16, 16}, {17, 17}, {199, 199}};
        for (int[] run : runs) {
            PressAndWait x = Tester.made(Texts.first(20, 2, 1, 3) + Texts.kind("k", 0, 2, 1)
                + Texts.come("k", 10, run[0]));
            Looks.greenIn(t, "press at " + run[0], x, 10, 11, run[1], run[1] + 1);
            Looks.leaves(t, "press at " + run[0], x, 10, run[1]);
            Looks.presses(t, "press at " + run[0], x, 1, 1);
        }
        // Who comes right behind the green does not press, so the light stays red.
        PressAndWait none = Tester.made(Texts.first(20, 2, 1, 3) + Texts.kind("k", 0, 2, 1) + Texts.come("k", 10, 12));
        Looks.greenIn(t, "comes at 12", none, 10, 11);
        Looks.presses(t, "comes at 12", none, 1, 0);
        int[][] least = {{0, 13}, {1, 13}, {2, 14}, {98, 110}, {99, 111}};
        for (int[] run : least) {
            PressAndWait x = Tester.made(Texts.first(20, 2, 1, run[0]) + Texts.kind("k", 0, 2, 1)
                + Texts.come("k", 10, 13));
            int from = Math.max(10, run[0]);
            if (from == 10) {
                Looks.greenIn(t, "least " + run[0], x, 10, 11, run[1], run[1] + 1);
            } else {
                // Both wait for the first green, and one is enough for both.
                Looks.greenIn(t, "least " + run[0], x, from, from + 1);
            }
        }
        PressAndWait x = Tester.made(Texts.first(120, 1, 1, 99) + Texts.kind("k", 0, 1, 1) + Texts.come("k", 99, 101, 199));
        // Between 99 and 199 lie 99 SECONDS.
        Looks.greenIn(t, "least 99", x, 99, 99, 199, 199);
        Looks.leaves(t, "least 99", x, 99, 199, 199);
        x = Tester.made(Texts.first(120, 1, 1, 99) + Texts.kind("k", 0, 1, 1) + Texts.come("k", 100, 102, 199));
        Looks.greenIn(t, "least 99, one later", x, 100, 100, 200, 200);
    }

    private static void buttonAndFirstGreen() {
        t.says("Term II", "(ahead of the first green between that and SECOND 0, this one, too);");
        int[][] runs = {{0, 0, 0}, {0, 1, 1}, {1, 0, 1}, {1, 1, 1}, {5, 0, 5}, {5, 4, 5}, {5, 5, 5}, {5, 6, 6},
            {99, 0, 99}, {99, 98, 99}, {99, 99, 99}, {99, 100, 100}};
        for (int[] run : runs) {
            PressAndWait x = Tester.made(Texts.first(10, 1, 1, run[0]) + Texts.kind("k", 0, 1, 1)
                + Texts.come("k", run[1]));
            Looks.greenIn(t, "least " + run[0] + ", at " + run[1], x, run[2], run[2]);
            Looks.leaves(t, "least " + run[0] + ", at " + run[1], x, run[2]);
        }
    }

    private static void buttonAndGreen() {
        t.says("Term II", "it is green for as many SECONDS as told, with that one;");
        for (int green : new int[] {1, 2, 59, 60}) {
            PressAndWait x = Tester.made(Texts.first(120, green, 1, 0) + Texts.kind("k", 0, 1, 1) + Texts.come("k", 199));
            Looks.greenIn(t, "green " + green, x, 199, 198 + green);
            x = Tester.made(Texts.first(120, green, 1, 0) + Texts.kind("k", 0, 1, 1) + Texts.come("k", 0));
            Looks.greenIn(t, "green " + green + " from 0", x, 0, green - 1);
        }
        // The cycle is nothing to RULE 1: a green goes on over its end.
        PressAndWait x = Tester.made(Texts.first(10, 9, 1, 0) + Texts.kind("k", 0, 1, 1) + Texts.come("k", 8));
        Looks.greenIn(t, "over the cycle", x, 8, 16);
    }

    private static void buttonAndPresses() {
        t.says("Term II", "no press is OPEN behind that one.");
        PressAndWait x = Tester.made(Texts.first(20, 3, 1, 0) + Texts.kind("k", 0, 1, 1) + Texts.come("k", 10, 10, 10));
        Looks.greenIn(t, "three at once", x, 10, 12);
        Looks.presses(t, "three at once", x, 1, 1, 1);
        x = Tester.made(Texts.first(20, 3, 1, 30) + Texts.kind("k", 0, 1, 1) + Texts.come("k", 10, 29, 30, 31));
        Looks.greenIn(t, "while waiting, and in that SECOND", x, 30, 32);
        Looks.presses(t, "while waiting, and in that SECOND", x, 1, 1, 1, 0);
        // Too slow for this green: none presses for him again.
        x = Tester.made(Texts.first(20, 3, 1, 0) + Texts.kind("k", 0, 4, 1) + Texts.come("k", 10));
        Looks.greenIn(t, "too slow", x, 10, 12);
        Looks.leaves(t, "too slow", x, -1);
    }

    private static void byBoth() {
        t.says("Term II", "By RULE 2 it is as by RULE 0, but in a cycle in whose phase 0 no press is OPEN it is not "
            + "green at all;");
        int[][] runs = {{0, 0}, {1, 10}, {9, 10}, {10, 10}, {11, 20}, {13, 20}, {19, 20}, {20, 20}, {190, 190}, {199, 200}};
        for (int[] run : runs) {
            PressAndWait x = Tester.made(Texts.first(10, 4, 2, 99) + Texts.kind("k", 0, 4, 1) + Texts.come("k", run[0]));
            Looks.greenIn(t, "press at " + run[0], x, run[1], run[1] + 3);
            Looks.leaves(t, "press at " + run[0], x, run[1]);
            Looks.presses(t, "press at " + run[0], x, 1);
        }
        PressAndWait x = Tester.made(Texts.first(120, 60, 2, 0) + Texts.kind("k", 0, 1, 1) + Texts.come("k", 121));
        Looks.greenIn(t, "the longest cycle", x, 240, 299);
        x = Tester.made(Texts.first(10, 9, 2, 0) + Texts.kind("k", 0, 1, 1) + Texts.come("k", 0, 10, 20));
        Looks.greenIn(t, "green but for one SECOND", x, 0, 8, 10, 18, 20, 28);
        t.says("Term II", "no press is OPEN behind phase 0 of a green one.");
        x = Tester.made(Texts.first(10, 4, 2, 0) + Texts.kind("k", 0, 4, 1) + Texts.come("k", 5, 9, 10));
        Looks.greenIn(t, "three for one green", x, 10, 13);
        Looks.presses(t, "three for one green", x, 1, 1, 1);
        x = Tester.made(Texts.first(10, 4, 2, 0) + Texts.kind("k", 0, 4, 1) + Texts.come("k", 10, 11, 13, 14, 15));
        // 11 to 14 come behind a green SECOND; 15 is the first to press for the next cycle.
        Looks.greenIn(t, "behind it", x, 10, 13, 20, 23);
        Looks.presses(t, "behind it", x, 1, 0, 0, 0, 1);
        x = Tester.made(Texts.first(10, 4, 2, 0) + Texts.kind("k", 0, 4, 1) + Texts.come("k", 10, 11, 13, 14));
        Looks.greenIn(t, "none behind it", x, 10, 13);
        Looks.leaves(t, "none behind it", x, 10, -1, -1, -1);
    }

    private static void elseRed() {
        t.says("Term II", "Else it is red.");
        for (int rule = 1; rule <= 2; rule++) {
            Looks.greenIn(t, "nobody, RULE " + rule, Tester.made(Texts.first(10, 9, rule, 0)));
            Looks.greenIn(t, "no belief, RULE " + rule, Tester.made(Texts.first(10, 9, rule, 0)
                + Texts.kind("k", 0, 1, 0) + Texts.come("k", 0, 50, 199)));
        }
    }

    private static void pressing() {
        t.says("Term II", "FIRST WALKERS whose SECOND it is come, by numbers; who comes, if his KIND trusts (above 0), "
            + "and the light was not green in the SECOND ahead, presses: a press is OPEN.");
        int[][] belief = {{0, 0}, {1, 1}, {2, 1}, {9, 1}};
        for (int[] run : belief) {
            PressAndWait x = Tester.made(Texts.first(10, 3, 0, 0) + Texts.kind("k", 0, 1, run[0]) + Texts.come("k", 5));
            Looks.presses(t, "trusts " + run[0], x, run[1]);
            x = Tester.made(Texts.first(10, 3, 1, 0) + Texts.kind("k", 0, 1, run[0]) + Texts.come("k", 5));
            t.due("green by who trusts " + run[0], x.light(5), run[1]);
        }
        PressAndWait x = Tester.made(Texts.first(10, 3, 0, 0) + Texts.kind("k", 0, 3, 1)
            + Texts.come("k", 0, 1, 2, 3, 4, 9, 10, 11, 13, 14, 190, 199));
        Looks.presses(t, "by the clock", x, 1, 0, 0, 0, 1, 1, 1, 0, 0, 1, 1, 1);
        // Nobody was there ahead of SECOND 0, so he presses; and all twelve can.
        x = Tester.made(Texts.first(10, 3, 0, 0) + Texts.kind("k", 0, 3, 1) + Texts.twelve("k", 0));
        Looks.presses(t, "all at 0", x, 1, 1, 1, 1, 1, 1, 1, 1, 1, 1, 1, 1);
        x = Tester.made(Texts.first(10, 3, 0, 0) + Texts.kind("k", 0, 3, 1) + Texts.twelve("k", 1));
        Looks.presses(t, "all at 1", x, 0, 0, 0, 0, 0, 0, 0, 0, 0, 0, 0, 0);
        // His KIND, not another.
        x = Tester.made(Texts.first(10, 3, 0, 0) + Texts.kind("k", 0, 3, 0) + Texts.kind("l", 0, 3, 1)
            + "comes a is k at 5;comes b is l at 5;");
        Looks.presses(t, "of two KINDS", x, 0, 1);
    }

    private static void orderOfASecond() {
        t.says("Term II", "THEN the light is what it is. THEN, by numbers, of those who are there:");
        // He comes, the light is green by his press, he crosses: all in one SECOND, the first, too.
        for (int rule = 1; rule <= 2; rule++) {
            PressAndWait x = Tester.made(Texts.first(10, 5, rule, 0) + Texts.kind("k", 0, 5, 1) + Texts.come("k", 0));
            Looks.leaves(t, "RULE " + rule, x, 0);
            t.due("RULE " + rule + ": nothing is waited", x.day(0), 0);
        }
        // By numbers, not by when they came.
        PressAndWait x = Tester.made(Texts.first(120, 1, 2, 0) + Texts.kind("k", 0, 9, 0) + Texts.come("k", 9, 8, 7, 6)
            + "red second>8 and reds<2;");
        Looks.leaves(t, "by numbers", x, 9, 9, -1, -1);
        // Who has not come yet is not there.
        x = Tester.made(Texts.first(120, 1, 2, 0) + Texts.kind("k", 0, 9, 0) + Texts.come("k", 9, 8, 7, 6)
            + "red reds<2;");
        Looks.leaves(t, "who is there", x, -1, -1, 7, 6);
    }

    private static void crossing() {
        t.says("Term II", "by a green light he crosses, if the green lasts as many SECONDS as his pace, at least (this "
            + "one, too);");
        int[][] clock = {{1, 19, 19}, {1, 20, 50}, {2, 18, 18}, {2, 19, 50}, {5, 15, 15}, {5, 16, 50}, {19, 1, 1},
            {19, 2, 50}, {20, 0, 0}, {20, 1, 50}};
        for (int[] run : clock) {
            PressAndWait x = Tester.made(Texts.first(50, 20, 0, 0) + Texts.kind("k", 0, run[0], 0) + Texts.come("k", run[1]));
            Looks.leaves(t, "clock: pace " + run[0] + " at " + run[1], x, run[2]);
        }
        PressAndWait x = Tester.made(Texts.first(50, 19, 0, 0) + Texts.kind("k", 0, 20, 0) + Texts.come("k", 0));
        Looks.leaves(t, "a green one too short", x, -1);
        int[][] others = {{20, 30, 30}, {20, 31, -1}, {19, 31, 31}, {19, 32, -1}, {1, 49, 49}, {1, 50, -1},
            {2, 48, 48}, {2, 49, -1}};
        for (int rule = 1; rule <= 2; rule++) {
            for (int[] run : others) {
                // The first one presses at 30 (phase 0 of cycle 30): green 30 to 49. The other does not press.
                x = Tester.made(Texts.first(30, 20, rule, 0) + Texts.kind("k", 0, 20, 1) + Texts.kind("l", 0, run[0], 0)
                    + "comes a is k at 30;comes b is l at " + run[1] + ";");
                Looks.leaves(t, "RULE " + rule + ": pace " + run[0] + " at " + run[1], x, 30, run[2]);
            }
        }
    }

    private static void going() {
        t.says("Term II", "by red, or if it does not, he GOES, if the TEST of red holds (without it never; also by "
            + "green):");
        String start = Texts.first(50, 5, 0, 0) + Texts.kind("k", 0, 5, 0);
        PressAndWait x = Tester.made(start + Texts.come("k", 0, 1, 4, 5, 49) + "red all;");
        // 0 crosses; 1 and 4 go by a green that does not last; 5 and 49 by red.
        Looks.leaves(t, "red all", x, 0, 1, 4, 5, 49);
        int[] goes = {0, 1, 1, 1, 1};
        for (int w = 0; w < goes.length; w++) {
            t.due("walker(" + w + ", 4)", x.walker(w, 4), goes[w]);
        }
        Looks.dayIs(t, "red all", x, 0, 4, 0, 0, 5, 0);
        x = Tester.made(start + Texts.come("k", 0, 1, 4, 5, 49));
        Looks.leaves(t, "without red", x, 0, 50, 50, 50, 50);
        t.due("without red none goes", x.day(1), 0);
        x = Tester.made(start + Texts.come("k", 0, 1, 4, 5, 49) + "red not all;");
        Looks.leaves(t, "red never", x, 0, 50, 50, 50, 50);
        x = Tester.made(start + Texts.come("k", 1, 1) + "red second=49;");
        Looks.leaves(t, "the last SECOND of red", x, 49, 49);
        x = Tester.made(start + Texts.come("k", 1, 1) + "red second=50;");
        Looks.leaves(t, "he crosses by then", x, 50, 50);
        t.due("he crosses by then", x.day(1), 0);
    }

    private static void harm() {
        t.says("Term II", "he is HARMED, if a car comes in one of as many SECONDS as his pace, from this one on;");
        for (int pace : new int[] {1, 2, 19, 20}) {
            for (int s = 0; s <= 31; s++) {
                PressAndWait x = Tester.made(Texts.first(120, 1, 1, 0) + Texts.kind("k", 0, pace, 0) + Texts.come("k", 0)
                    + "car second=30;red second=" + s + ";");
                t.due("pace " + pace + ", goes at " + s, x.walker(0, 2), s);
                t.due("pace " + pace + ", goes at " + s + ", HARMED", x.walker(0, 5), s <= 30 && 30 < s + pace ? 1 : 0);
            }
        }
        // Behind the DAY, too: from 299 on with pace 20 the last SECOND is 318.
        int[][] late = {{298, 20, 0}, {299, 20, 1}, {299, 1, 1}, {300, 1, 0}, {300, 2, 1}, {317, 19, 1}, {318, 19, 0},
            {318, 20, 1}, {319, 20, 0}};
        for (int[] run : late) {
            PressAndWait x = Tester.made(Texts.first(120, 1, 1, 0) + Texts.kind("k", 0, run[1], 0) + Texts.come("k", 199)
                + "car second=" + run[0] + ";red second=299;");
            t.due("at 299 by " + run[0] + " with pace " + run[1], x.walker(0, 5), run[2]);
            t.due("day(2)", x.day(2), run[2]);
        }
        // Who crosses by green is not HARMED; without cars none is.
        PressAndWait x = Tester.made(Texts.first(120, 60, 0, 0) + Texts.kind("k", 0, 20, 0) + Texts.come("k", 0)
            + "car all;red all;");
        t.due("by green", x.day(2), 0);
        x = Tester.made(Texts.first(120, 1, 1, 0) + Texts.kind("k", 0, 20, 0) + Texts.come("k", 0) + "red all;");
        t.due("goes without cars", x.day(1), 1);
        t.due("HARMED without cars", x.day(2), 0);
    }

    private static void waiting() {
        t.says("Term II", "else he has waited a SECOND more.");
        String start = Texts.first(50, 5, 0, 0) + Texts.kind("k", 0, 5, 0);
        int[][] runs = {{0, 0}, {1, 49}, {49, 1}, {50, 0}, {199, 1}};
        for (int[] run : runs) {
            t.due("comes at " + run[0], Tester.made(start + Texts.come("k", run[0])).walker(0, 3), run[1]);
        }
        String never = Texts.first(50, 5, 1, 0) + Texts.kind("k", 0, 5, 0);
        t.due("all DAY", Tester.made(never + Texts.come("k", 0)).walker(0, 3), 300);
        t.due("from 199 on", Tester.made(never + Texts.come("k", 199)).walker(0, 3), 101);
        t.due("goes at once", Tester.made(never + Texts.come("k", 7) + "red all;").walker(0, 3), 0);
        t.due("goes at 299", Tester.made(never + Texts.come("k", 0) + "red second=299;").walker(0, 3), 299);
    }

    private static void cars() {
        t.says("Term II", "A car comes in a SECOND in which the TEST of car holds (without it: never), light or not.");
        PressAndWait all = Tester.made(Texts.first(10, 5, 0, 0) + "car all;");
        PressAndWait none = Tester.made(Texts.first(10, 5, 0, 0) + "car not all;");
        PressAndWait without = Tester.made(Texts.first(10, 5, 0, 0));
        for (int s = 0; s < 320; s++) {
            t.due("all: car(" + s + ")", all.car(s), 1);
            t.due("not all: car(" + s + ")", none.car(s), 0);
            t.due("without: car(" + s + ")", without.car(s), 0);
        }
    }

    private static void notCrossed() {
        t.says("Term II", "Who is there behind SECOND 299 has not crossed.");
        String never = Texts.first(50, 5, 1, 0) + Texts.kind("k", 0, 5, 0);
        PressAndWait x = Tester.made(never + Texts.twelve("k", 199));
        Looks.dayIs(t, "all twelve", x, 12 * 101, 0, 0, 12, 0, 0);
        Looks.leaves(t, "all twelve", x, -1, -1, -1, -1, -1, -1, -1, -1, -1, -1, -1, -1);
        x = Tester.made(never + Texts.come("k", 0, 199) + "red second=299 and reds=0;");
        Looks.dayIs(t, "one goes at 299", x, 299 + 101, 1, 0, 1, 0, 0);
        Looks.dayIs(t, "nobody", Tester.made(never), 0, 0, 0, 0, 0, 0);
    }

    private static void trustsThen(String text, int... want) {
        PressAndWait x = Tester.made(Texts.first(60, 10, 1, 0) + text);
        x.days(1);
        Looks.trusts(t, text, x, want);
        x = Tester.made(Texts.first(60, 10, 1, 0) + text);
        x.chance(1);
        Looks.trusts(t, "by chance: " + text, x, want);
    }

    private static void learning() {
        t.says("Term II", "Behind a DAY, WALKER by WALKER who came, how his KIND trusts becomes more by the SUM of "
            + "learns (below 0, too; by what he waited, 0 .. 9; 0 without).");
        for (int before = 0; before <= 9; before++) {
            String one = Texts.kind("k", 0, 5, before) + Texts.come("k", 20);
            trustsThen(one, before);
            trustsThen(one + "learns 0;", before);
            trustsThen(one + "learns 1;", Math.min(before + 1, 9));
            trustsThen(one + "learns 9;", 9);
            trustsThen(one + "learns 9999*9999;", 9);
            trustsThen(one + "learns 0-1;", Math.max(before - 1, 0));
            trustsThen(one + "learns 0-9;", 0);
            trustsThen(one + "learns 0-9999*9999;", 0);
        }
        // Each WALKER for himself: it is held at 0 and 9 behind each of them.
        trustsThen(Texts.kind("k", 0, 5, 8) + Texts.come("k", 0, 1) + "learns 5-second*7;", 7);
        trustsThen(Texts.kind("k", 0, 5, 1) + Texts.come("k", 1, 0) + "learns 5-second*7;", 5);
        trustsThen(Texts.kind("k", 0, 5, 0) + Texts.twelve("k", 20) + "learns 1;", 9);
        trustsThen(Texts.kind("k", 0, 5, 9) + Texts.twelve("k", 20) + "learns 0-1;", 0);
        trustsThen(Texts.kind("k", 0, 5, 1) + Texts.come("k", 20, 20, 20) + "learns trusts;", 8);
        // Of a KIND nobody is of, nothing is learnt; each learns for his own.
        trustsThen(Texts.kind("k", 0, 5, 4) + Texts.kind("l", 0, 5, 4) + Texts.come("l", 20) + "learns 1;", 4, 5);
        // By what he waited: 0, and all DAY.
        trustsThen(Texts.kind("k", 0, 5, 1) + Texts.come("k", 20) + "learns waited;", 1);
        trustsThen(Texts.kind("k", 0, 5, 0) + Texts.come("k", 0) + "learns waited-295;", 5);
        trustsThen(Texts.kind("k", 0, 5, 0) + Texts.come("k", 199) + "learns waited-96;", 5);
        trustsThen(Texts.kind("k", 0, 5, 0) + Texts.come("k", 0) + "red second=299;learns waited-295;", 4);
        // Who does not come does not learn.
        PressAndWait x = Tester.made(Texts.first(60, 10, 1, 0) + Texts.kind("k", 0, 5, 4) + Texts.come("k", 20)
            + "learns 1;away 100;");
        x.chance(3);
        Looks.trusts(t, "who did not come", x, 4);
        x.days(1);
        Looks.trusts(t, "who came", x, 5);
    }

    private static void oneDayMore() {
        t.says("Term II", "The DAY is one more (999 at most).");
        String text = Texts.first(60, 10, 1, 0);
        PressAndWait x = Tester.made(text);
        t.due("at first", x.has(3), 0);
        t.due("days(1)", x.days(1), 0);
        t.due("one more", x.has(3), 1);
        t.due("chance(1)", x.chance(1), 0);
        t.due("one more", x.has(3), 2);
        x = Tester.made(text);
        Tester.on(x, Tester.image(255, 1, 10));
        x.days(1);
        t.due("256", x.has(3), 256);
        Tester.on(x, Tester.image(998, 1, 10));
        t.due("days(1) on 998", x.days(1), 0);
        t.due("999", x.has(3), 999);
        t.due("undo", x.undo(), true);
        t.due("998", x.has(3), 998);
        t.due("chance(1) on 998", x.chance(1), 0);
        t.due("999", x.has(3), 999);
        t.due("days(1) on 999", x.days(1), -1);
        t.due("chance(1) on 999", x.chance(1), -1);
        t.due("it stays 999", x.has(3), 999);
        Tester.on(x, Tester.image(969, 1, 10));
        t.due("days(30) on 969", x.days(30), 0);
        t.due("999", x.has(3), 999);
        Tester.on(x, Tester.image(970, 1, 10));
        t.due("days(30) on 970", x.days(30), -1);
        t.due("chance(30) on 970", x.chance(30), -1);
        t.due("it stays 970", x.has(3), 970);
        t.due("days(29) on 970", x.days(29), 0);
        t.due("999", x.has(3), 999);
    }

    private static void acts() {
        t.says("Term II", "ACTS: another RULE; another green; a KIND trusts otherwise; DAYS; DAYS by the seed:");
        PressAndWait x = Tester.made(Texts.first(60, 10, 1, 0) + Texts.kind("k", 0, 5, 4) + Texts.come("k", 20) + "learns 0-1;");
        Looks.state(t, "none", x, 0, 1, 10, 0);
        x.rule(2);
        Looks.state(t, "another RULE", x, 0, 2, 10, 1);
        x.green(11);
        Looks.state(t, "another green", x, 0, 2, 11, 2);
        x.trust(0, 9);
        Looks.state(t, "trusts otherwise", x, 0, 2, 11, 3);
        x.days(30);
        Looks.state(t, "30 DAYS are one", x, 30, 2, 11, 4);
        x.chance(30);
        Looks.state(t, "30 DAYS by the seed are one", x, 60, 2, 11, 5);
        // All else is none.
        x.seed(5);
        x.image();
        Tester.see(x, 0, 0, 0);
        Tester.ask(x, "often all");
        x.best(0, 0);
        x.least();
        x.hold();
        x.later(29, 0);
        x.doubts(0);
        Looks.state(t, "nothing else", x, 60, 2, 11, 5);
    }

    private static long draw(long[] seed, int m) {
        seed[0] = BigInteger.valueOf(seed[0]).multiply(BigInteger.valueOf(1103515245L))
            .add(BigInteger.valueOf(12345L)).mod(BigInteger.ONE.shiftLeft(31)).longValue();
        return seed[0] / 64 % m;
    }

    private static void whoStaysAway() {
        t.says("Term II", "ahead of each for each WALKER a DRAW of 100: below away he does not come on it.");
        String one = Texts.first(60, 10, 1, 0) + Texts.kind("k", 0, 5, 4) + Texts.come("k", 20);
        for (int seed = 0; seed < 60; seed++) {
            int drawn = (int) draw(new long[] {seed}, 100);
            for (int away = Math.max(0, drawn - 1); away <= Math.min(100, drawn + 2); away++) {
                PressAndWait x = Tester.made(one + "away " + away + ";");
                x.seed(seed);
                t.due("draw " + drawn + ", away " + away, x.chance(1), drawn < away ? 1 : 0);
            }
        }
        // Each WALKER has a draw of his own, in their order, on each DAY: who came has learnt.
        StringBuilder six = new StringBuilder(Texts.first(60, 10, 1, 0) + Texts.kinds(6, 0, 5, 0));
        for (int w = 0; w < 6; w++) {
            six.append("comes w").append((char) ('a' + w)).append(" is k").append((char) ('f' - w)).append(" at 20;");
        }
        for (int away : new int[] {0, 1, 35, 50, 99, 100}) {
            PressAndWait x = Tester.made(six + "learns 1;away " + away + ";");
            long[] seed = {1};
            int[] trusts = new int[6];
            for (int k = 0; k < 3; k++) {
                int missing = 0;
                for (int day = 0; day < 3; day++) {
                    for (int w = 0; w < 6; w++) {
                        boolean comes = draw(seed, 100) >= away;
                        trusts[5 - w] += comes ? 1 : 0;
                        missing += comes ? 0 : 1;
                    }
                }
                t.due("away " + away + ", chance(3)", x.chance(3), missing);
                Looks.trusts(t, "away " + away, x, trusts);
            }
        }
        // Without WALKERS nothing is drawn: the seed is as it was.
        PressAndWait x = Tester.made(Texts.first(60, 10, 1, 0) + "away 50;");
        x.seed(9);
        t.due("nobody", x.chance(30), 0);
        Tester.crossing(x, six + "away 50;");
        long[] seed = {9};
        int missing = 0;
        for (int k = 0; k < 6; k++) {
            missing += draw(seed, 100) < 50 ? 1 : 0;
        }
        t.due("by the seed as it was", x.chance(1), missing);
        // Who does not come does not press: the one who does not believe waits for him in vain.
        inVain(Texts.kind("k", 0, 5, 1) + Texts.kind("l", 0, 5, 0), "");
        // Nor does he go: the one who would follow him waits in vain.
        inVain(Texts.kind("k", 1, 20, 1) + Texts.kind("l", 0, 20, 0), "red calm=1 or reds>0;");
    }

    /** Of two, the second waits if he comes and the first does not; then he learns. */
    private static void inVain(String kinds, String red) {
        String two = Texts.first(60, 10, 1, 0) + kinds + "comes a is k at 20;comes b is l at 20;" + red
            + "learns min(waited,1);away 50;";
        for (int s = 0; s < 20; s++) {
            long[] seed = {s};
            boolean first = draw(seed, 100) >= 50;
            boolean second = draw(seed, 100) >= 50;
            PressAndWait x = Tester.made(two);
            x.seed(s);
            t.due("seed " + s, x.chance(1), (first ? 0 : 1) + (second ? 0 : 1));
            Looks.trusts(t, "seed " + s, x, 1, second && !first ? 1 : 0);
        }
    }

    private static void lastTwenty() {
        t.says("Term II", "The last 20 can be undone.");
        for (int acts : new int[] {0, 1, 19, 20, 21, 22, 39, 40, 41, 60}) {
            PressAndWait x = Tester.made(Texts.first(120, 60, 1, 0));
            for (int k = 0; k < acts; k++) {
                t.due("act " + k, x.green(1 + k % 59), true);
            }
            int can = Math.min(acts, 20);
            t.due(acts + " ACTS: can be undone", x.has(7), can);
            for (int k = 1; k <= can; k++) {
                t.due(acts + " ACTS: undo " + k, x.undo(), true);
                int left = acts - k;
                t.due(acts + " ACTS: green behind undo " + k, x.has(5), left == 0 ? 60 : 1 + (left - 1) % 59);
                t.due(acts + " ACTS: left behind undo " + k, x.has(7), can - k);
            }
            t.due(acts + " ACTS: one more", x.undo(), false);
            t.due(acts + " ACTS: status(4)", x.status(4), 1);
        }
    }

    private static void draws() {
        t.says("Term II", "A DRAW of m: x (the seed) becomes (1103515245 x + 12345) mod 2 to the 31; floor(x / 64) mod "
            + "m.");
        String text = Texts.first(60, 10, 1, 0) + Texts.kind("k", 0, 5, 4) + Texts.twelve("k", 20);
        int[] seeds = {0, 1, 2, 63, 64, 65535, 1 << 30, Integer.MAX_VALUE - 1, Integer.MAX_VALUE};
        for (int start : seeds) {
            for (int away : new int[] {1, 50, 99}) {
                PressAndWait x = Tester.made(text + "away " + away + ";");
                long[] seed = {start};
                t.due("seed(" + start + ")", x.seed(start), true);
                for (int n : new int[] {1, 2, 30}) {
                    int missing = 0;
                    for (int k = 0; k < 12 * n; k++) {
                        missing += draw(seed, 100) < away ? 1 : 0;
                    }
                    t.due("seed " + start + ", away " + away + ", chance(" + n + ")", x.chance(n), missing);
                }
            }
        }
    }
}
