/** Promises 16 to 20: days to come, when a kind believes no more, which rule it was, whom to watch. */
public final class AheadTest {
    private static final Tester t = new Tester("AheadTest");
    private static final String FIRST = "cycle 60 green 10 rule 1 least 0;";

    public static void main(String[] args) {
        withoutCrossing();
        later();
        learning();
        doubts();
        lastDays();
        see();
        fits();
        watched();
        t.finish();
    }

    private static void withoutCrossing() {
        PressAndWait x = new PressAndWait();
        t.due("later", x.later(0, 0), -1);
        t.due("doubts", x.doubts(0), -1);
        t.due("see", Tester.see(x, 0, 0, 0), -1);
        t.due("status(1)", x.status(1), 1);
        t.due("fits", x.fits(0), -1);
        t.due("watched", x.watched(0), -1);
    }

    private static void later() {
        // Trusts 2: he presses on DAYS 0 and 1, then waits all DAY.
        PressAndWait x = Tester.made(FIRST + "kind k calm 0 pace 5 trusts 2;comes a is k at 20;learns 0-1;");
        int[] now = {0, 0, 0, 0, 0, 1};
        int[] then = {280, 0, 0, 1, 0, 0};
        for (int n = 0; n < 30; n++) {
            for (int what = 0; what < 6; what++) {
                int want = n < 2 ? now[what] : then[what];
                t.due("later(" + n + ", " + what + ")", x.later(n, what), want);
            }
        }
        t.due("later(30, 0)", x.later(30, 0), -1);
        t.due("later(-1, 0)", x.later(-1, 0), -1);
        t.due("later(0, 6)", x.later(0, 6), -1);
        t.due("later(0, -1)", x.later(0, -1), -1);
        t.due("it stays this DAY", x.has(3), 0);
        t.due("it trusts as it did", x.kind(0, 2), 2);
        t.due("day(0)", x.day(0), 0);
        x.trust(0, 3);
        t.due("later(2, 0) with more belief", x.later(2, 0), 0);
        x.rule(0);
        t.due("later(2, 0) by another RULE", x.later(2, 0), 40);
        x.undo();
        x.undo();
        t.due("later(2, 0) again", x.later(2, 0), 280);
        // away is for DRAWS alone.
        x = Tester.made(FIRST + "kind k calm 0 pace 5 trusts 2;comes a is k at 20;away 100;");
        t.due("all come", x.later(5, 5), 1);
        // Cars by the DAY.
        x = Tester.made(FIRST + "kind k calm 0 pace 5 trusts 0;comes a is k at 20;car day>3;red all;");
        t.due("no car on DAY 3", x.later(3, 2), 0);
        t.due("cars on DAY 4", x.later(4, 2), 1);
    }

    private static void trustsThen(String text, int want) {
        PressAndWait x = Tester.made(FIRST + text);
        x.days(1);
        t.due(text, x.kind(0, 2), want);
    }

    private static void learning() {
        trustsThen("kind k calm 0 pace 5 trusts 4;comes a is k at 20;", 4);
        trustsThen("kind k calm 0 pace 5 trusts 4;comes a is k at 20;learns 2;", 6);
        trustsThen("kind k calm 0 pace 5 trusts 4;learns 2;", 4);
        trustsThen("kind k calm 0 pace 5 trusts 4;comes a is k at 20;learns 9999*9999;", 9);
        trustsThen("kind k calm 0 pace 5 trusts 4;comes a is k at 20;learns 0-9999*9999;", 0);
        // Walker by walker: the second one learns from what the first has left.
        trustsThen("kind k calm 0 pace 5 trusts 0;comes a is k at 20;comes b is k at 20;learns 5-trusts;", 5);
        trustsThen("kind k calm 0 pace 5 trusts 5;comes a is k at 0;comes b is k at 10;learns 9-12*(second/10);", 6);
        trustsThen("kind k calm 7 pace 5 trusts 1;comes a is k at 20;learns calm-pace;", 3);
        trustsThen("kind k calm 7 pace 5 trusts 0;comes a is k at 193;learns waited-100;", 7);
        trustsThen("kind k calm 7 pace 11 trusts 3;comes a is k at 20;learns waited-279;", 4);
        PressAndWait x = Tester.made(FIRST + "kind k calm 0 pace 5 trusts 9;comes a is k at 20;learns 0-day;");
        int[] trusts = {9, 9, 8, 6, 3, 0};
        for (int n = 0; n < trusts.length; n++) {
            t.due("trusts on DAY " + n, x.kind(0, 2), trusts[n]);
            x.days(1);
        }
    }

    private static void doubts() {
        PressAndWait x = Tester.made(FIRST + "kind k calm 0 pace 5 trusts 9;kind l calm 0 pace 5 trusts 9;"
            + "kind m calm 0 pace 5 trusts 0;kind n calm 0 pace 5 trusts 1;comes a is k at 20;comes b is l at 20;"
            + "comes c is l at 30;comes d is m at 20;learns 0-1;");
        t.due("one a DAY", x.doubts(0), 9);
        t.due("two a DAY", x.doubts(1), 5);
        t.due("now", x.doubts(2), 0);
        t.due("nobody comes", x.doubts(3), -1);
        t.due("no such", x.doubts(4), -1);
        t.due("no such", x.doubts(-1), -1);
        x.days(4);
        t.due("nearer", x.doubts(0), 5);
        x = Tester.made(FIRST + "kind k calm 0 pace 5 trusts 1;comes a is k at 20;learns 0-day/29;");
        t.due("behind the 30th", x.doubts(0), 30);
        x = Tester.made(FIRST + "kind k calm 0 pace 5 trusts 1;comes a is k at 20;learns 0-day/30;");
        t.due("behind the 31st", x.doubts(0), -1);
    }

    private static void lastDays() {
        PressAndWait x = Tester.made(FIRST + "kind k calm 0 pace 5 trusts 9;comes a is k at 20;learns 0-1;");
        t.due("on", Tester.on(x, Tester.image(998, 1, 10, 2)), true);
        t.due("DAY 999 is ahead", x.later(1, 0), 0);
        t.due("DAY 1000 is not", x.later(2, 0), -1);
        t.due("a doubt behind 999", x.doubts(0), 2);
        t.due("days(2)", x.days(2), -1);
        t.due("chance(2)", x.chance(2), -1);
        t.due("status(3)", x.status(3), 2);
        t.due("days(1)", x.days(1), 0);
        t.due("DAY", x.has(3), 999);
        t.due("days(1) on 999", x.days(1), -1);
        t.due("chance(1) on 999", x.chance(1), -1);
        t.due("later(0, 5) on 999", x.later(0, 5), 1);
        t.due("later(1, 5) on 999", x.later(1, 5), -1);
        t.due("doubts on 999", x.doubts(0), 1);
        x.trust(0, 2);
        t.due("no more DAYS", x.doubts(0), -1);
    }

    private static void see() {
        PressAndWait x = Tester.made(FIRST + "kind k calm 0 pace 5 trusts 2;comes a is k at 20;comes b is k at 30;");
        t.due("a row", Tester.see(x, 0, 0, 20), 1);
        t.due("has(6)", x.has(6), 1);
        t.due("the tape is gone", x.feed(0, 0, 0, 0, 0), 20);
        x.end(0);
        int[] most = new int[48];
        t.due("16 rows", Tester.see(x, most), 16);
        t.due("has(6)", x.has(6), 16);
        t.due("17 rows", Tester.see(x, new int[51]), -1);
        t.due("none", Tester.see(x), -1);
        t.due("two bytes", Tester.see(x, 0, 0), -1);
        t.due("four bytes", Tester.see(x, 0, 0, 0, 0), -1);
        t.due("no such WALKER", Tester.see(x, 2, 0, 0), -1);
        t.due("the second row is none", Tester.see(x, 0, 0, 0, 255, 0, 0), -1);
        t.due("SECOND 300", Tester.see(x, 0, 1, 44), -1);
        t.due("SECOND 65534", Tester.see(x, 0, 255, 254), -1);
        t.due("status(1)", x.status(1), 8);
        t.due("all stays", x.has(6), 16);
        t.due("the tape is gone", x.feed(0, 0, 0, 0, 0), 20);
        x.end(0);
        t.due("SECOND 299, none", Tester.see(x, 0, 1, 43, 1, 255, 255), 2);
        t.due("has(6)", x.has(6), 2);
    }

    private static void fitsAre(String name, PressAndWait x, int count, int rules, int green) {
        t.due(name + ": fits(0)", x.fits(0), count);
        t.due(name + ": fits(1)", x.fits(1), rules);
        t.due(name + ": fits(2)", x.fits(2), green);
        t.due(name + ": fits(3)", x.fits(3), -1);
        t.due(name + ": fits(-1)", x.fits(-1), -1);
    }

    private static void fits() {
        PressAndWait x = Tester.made(FIRST + "kind k calm 0 pace 5 trusts 2;comes a is k at 12;");
        fitsAre("nothing is SEEN", x, 60, 7, 1);
        Tester.see(x, 0, 0, 12);
        // By the clock with 17 and more, by the button with 5 and more.
        fitsAre("at once", x, 4 + 16, 3, 5);
        Tester.see(x, 0, 0, 60);
        fitsAre("at 60", x, 12 + 16, 5, 5);
        Tester.see(x, 0, 255, 255);
        fitsAre("not at all", x, 12, 7, 1);
        Tester.see(x, 0, 0, 60, 0, 0, 12);
        fitsAre("both at once", x, 0, 0, -1);
        Tester.see(x, 0, 0, 12);
        x.rule(0);
        x.green(1);
        fitsAre("whatever the RULE is now", x, 20, 3, 5);
        x.trust(0, 0);
        fitsAre("without belief", x, 4, 1, 17);
        t.due("SEEN stays", x.has(6), 1);
        x = Tester.made("cycle 10 green 3 rule 1 least 0;");
        fitsAre("below the cycle", x, 27, 7, 1);
        // Who goes at red is seen, too.
        x = Tester.made(FIRST + "kind k calm 0 pace 20 trusts 2;comes a is k at 12;red waited=2;");
        Tester.see(x, 0, 0, 14);
        fitsAre("goes", x, 20 + 19 + 20, 7, 1);
    }

    private static void watchedIs(String name, PressAndWait x, int walker, int left) {
        t.due(name + ": watched(0)", x.watched(0), walker);
        t.due(name + ": watched(1)", x.watched(1), left);
        t.due(name + ": watched(2)", x.watched(2), -1);
        t.due(name + ": watched(-1)", x.watched(-1), -1);
    }

    private static void watched() {
        PressAndWait x = Tester.made(FIRST);
        watchedIs("nobody", x, -1, -1);
        // 12: not at all 12; at once by clock 4, by button 16; at 60 by clock 12, by both 16.
        x = Tester.made(FIRST + "kind k calm 0 pace 5 trusts 2;comes a is k at 12;");
        watchedIs("one", x, 0, 28);
        // 0: at once by clock, button, both with 5 and more, else not at all.
        x = Tester.made(FIRST + "kind k calm 0 pace 5 trusts 2;comes a is k at 0;comes b is k at 12;comes c is k at 12;");
        t.due("the first of like ones", x.watched(0), 1);
        Tester.see(x, 0, 0, 1);
        watchedIs("none fits", x, -1, -1);
        x = Tester.made(FIRST + "kind k calm 0 pace 5 trusts 0;comes a is k at 0;comes b is k at 12;");
        // By the clock alone: a 16 at once, 44 not at all; b 4 at once, 12 at 60, 44 not at all.
        watchedIs("like ones", x, 0, 44);
        Tester.see(x, 0, 0, 0);
        watchedIs("behind what is SEEN", x, 1, 12);
    }
}
