/** Promises 16 to 20, sentence by sentence: days ahead, doubts, what is SEEN, what fits it, whom to watch. */
public final class Promises16To20Test {
    private static final Tester t = new Tester("Promises16To20Test");
    private static final int MIN = Integer.MIN_VALUE;
    private static final int MAX = Integer.MAX_VALUE;
    private static final String LEARNING = Texts.first(60, 10, 1, 0) + Texts.kind("k", 0, 5, 2) + Texts.come("k", 20)
        + "learns 0-1;";

    public static void main(String[] args) {
        later();
        noneLater();
        doubts();
        noDoubts();
        see();
        refusedRows();
        fits();
        noneFits();
        watched();
        noneWatched();
        t.covers("Promise 16", "Promise 17", "Promise 18", "Promise 19", "Promise 20");
        t.finish();
    }

    private static void none(String name, Twins.Call call) {
        Twins.answers(t, name, Twins::busy, call, -1);
    }

    private static void withoutCrossing(String name, Twins.Call call) {
        Twins.answers(t, name + " without a crossing", PressAndWait::new, call, -1);
    }

    private static PressAndWait onDay(String text, int[] image) {
        PressAndWait x = Tester.made(text);
        t.due("on", Tester.on(x, image), true);
        return x;
    }

    private static void later() {
        t.says("Promise 16", "In the n-th DAY AHEAD (0 .. 29; 0 this one): as day().");
        int[] trusting = {0, 0, 0, 0, 0, 1};
        int[] doubting = {280, 0, 0, 1, 0, 0};
        PressAndWait x = Tester.made(LEARNING);
        for (int n : new int[] {29, 0, 1, 2, 3, 28}) {
            for (int what = 0; what < 6; what++) {
                t.due("later(" + n + ", " + what + ")", x.later(n, what), n < 2 ? trusting[what] : doubting[what]);
            }
        }
        for (int what = 0; what < 6; what++) {
            t.due("0 is this one: " + what, x.later(0, what), x.day(what));
        }
        // Each DAY AHEAD is as it is when it has come.
        PressAndWait y = Twins.busy();
        PressAndWait z = Twins.busy();
        for (int n = 0; n < 30; n++) {
            for (int what = 0; what < 6; what++) {
                t.due("later(" + n + ", " + what + ")", y.later(n, what), z.day(what));
            }
            z.days(1);
        }
        Twins.answers(t, "later(29, 0)", Twins::busy, w -> w.later(29, 0), Twins.busy().later(29, 0));
    }

    private static void noneLater() {
        t.says("Promise 16", "NONE when n can't be, without a crossing, or for others.");
        int[][] others = {{-1, 0}, {30, 0}, {31, 5}, {MIN, 0}, {MAX, 0}, {0, -1}, {0, 6}, {29, 6}, {0, MIN}, {0, MAX}};
        for (int[] n : others) {
            none("later(" + n[0] + ", " + n[1] + ")", y -> y.later(n[0], n[1]));
        }
        for (int[] n : new int[][] {{0, 0}, {29, 5}, {30, 0}, {0, 6}}) {
            withoutCrossing("later(" + n[0] + ", " + n[1] + ")", y -> y.later(n[0], n[1]));
        }
        // Not beyond DAY 999.
        for (int day = 968; day <= 999; day++) {
            PressAndWait x = onDay(LEARNING, Tester.image(day, 1, 10, 9));
            int last = Math.min(29, 999 - day);
            t.due("from " + day + ", the last", x.later(last, 0) >= 0, true);
            t.due("from " + day + ", one more", x.later(last + 1, 0), -1);
            t.due("from " + day + ", this one", x.later(0, 5), 1);
        }
    }

    private static void doubts() {
        t.says("Promise 17", "Behind how many DAYS AHEAD (0 .. 30; 0: now) a KIND trusts no more;");
        for (int trusts = 0; trusts <= 9; trusts++) {
            PressAndWait x = Tester.made(LEARNING);
            x.trust(0, trusts);
            t.due("trusts " + trusts, x.doubts(0), trusts);
        }
        String start = Texts.first(60, 10, 1, 0) + Texts.kind("k", 0, 5, 1) + Texts.come("k", 20);
        t.due("behind the first", Tester.made(start + "learns 0-1;").doubts(0), 1);
        t.due("behind the 29th", Tester.made(start + "learns 0-day/28;").doubts(0), 29);
        t.due("behind the 30th", Tester.made(start + "learns 0-day/29;").doubts(0), 30);
        t.due("behind the 31st", Tester.made(start + "learns 0-day/30;").doubts(0), -1);
        // The first such DAY, though it trusts again later.
        t.due("for a while", Tester.made(start + "learns 1-day*2;").doubts(0), 3);
        t.due("the last of six KINDS", Tester.made(Texts.first(60, 10, 1, 0) + Texts.kinds(6, 0, 5, 4)
            + Texts.come("kf", 20) + "learns 0-2;").doubts(5), 2);
        Twins.answers(t, "doubts(0)", Twins::busy, y -> y.doubts(0), Twins.busy().doubts(0));
    }

    private static void noDoubts() {
        t.says("Promise 17", "NONE when it does, or there is none such.");
        t.due("it learns nothing", Tester.made(LEARNING.replace("0-1", "0")).doubts(0), -1);
        t.due("nobody comes of it", Tester.made(Texts.PLAIN + Texts.kind("k", 0, 1, 1) + "learns 0-9;").doubts(0), -1);
        t.due("nobody comes of it, it never did", Tester.made(Texts.PLAIN + Texts.kind("k", 0, 1, 0)).doubts(0), 0);
        for (int kind : new int[] {-1, 2, 5, 6, MIN, MAX}) {
            none("doubts(" + kind + ")", y -> y.doubts(kind));
        }
        t.due("the 7th of six", Tester.made(Texts.PLAIN + Texts.kinds(6, 0, 1, 0)).doubts(6), -1);
        t.due("the 6th of six", Tester.made(Texts.PLAIN + Texts.kinds(6, 0, 1, 0)).doubts(5), 0);
        t.due("no KINDS", Tester.made(Texts.PLAIN).doubts(0), -1);
        withoutCrossing("doubts(0)", y -> y.doubts(0));
        // Not beyond DAY 999: it is the last that can be behind.
        t.due("behind 999", onDay(LEARNING, Tester.image(998, 1, 10, 2)).doubts(0), 2);
        t.due("beyond 999", onDay(LEARNING, Tester.image(998, 1, 10, 3)).doubts(0), -1);
        t.due("on 999", onDay(LEARNING, Tester.image(999, 1, 10, 1)).doubts(0), 1);
        t.due("now, on 999", onDay(LEARNING, Tester.image(999, 1, 10, 0)).doubts(0), 0);
    }

    private static int[] rows(int count, int walker, int second) {
        int[] bytes = new int[3 * count];
        for (int k = 0; k < count; k++) {
            bytes[3 * k] = walker;
            bytes[3 * k + 1] = second / 256;
            bytes[3 * k + 2] = second % 256;
        }
        return bytes;
    }

    private static PressAndWait full() {
        PressAndWait x = Tester.made(Texts.PLAIN + Texts.kind("k", 0, 5, 1) + Texts.twelve("k", 20));
        Tester.see(x, rows(2, 3, 20));
        return x;
    }

    private static void see() {
        t.says("Promise 18", "The tape (it goes) tells what is SEEN, 1 to 16 rows of three bytes: how many rows;");
        PressAndWait x = full();
        for (int count : new int[] {1, 2, 15, 16, 1}) {
            t.due(count + " rows", Tester.see(x, rows(count, 0, 20)), count);
            t.due(count + " rows: has(6)", x.has(6), count);
            t.due(count + " rows: the tape is gone", x.feed(0, 0, 0, 0, 0), 20);
            x.end(0);
        }
        int[][] can = {{0, 0}, {11, 0}, {0, 299}, {11, 299}, {0, 65535}, {11, 65535}, {0, 255}, {0, 256}};
        for (int[] row : can) {
            t.due("WALKER " + row[0] + " in " + row[1], Tester.see(x, rows(1, row[0], row[1])), 1);
        }
        t.due("nothing was refused", x.status(1), 0);
        // What was SEEN ahead is SEEN no more.
        Tester.see(x, rows(1, 0, 7));
        t.due("by none", x.fits(0), 0);
        Tester.see(x, rows(1, 0, 20));
        t.due("by some", x.fits(0) > 0, true);
        t.due("no ACT", x.has(7), 0);
        Twins.unswayed(t, "whatever was asked ahead", Twins::busy, y -> {
            y.end(0);
            return Tester.see(y, 0, 0, 14);
        });
    }

    private static void refusedRows() {
        t.says("Promise 18", "NONE, refused (1), all staying, when it is none such.");
        int[] lengths = {0, 1, 2, 4, 5, 7, 46, 47, 49, 50, 51, 60, 1599, 1600};
        for (int length : lengths) {
            Twins.refusedWithTape(t, length + " bytes", Promises16To20Test::full, y -> Tester.see(y, new int[length]), -1, 1);
        }
        int[][] none = {{12, 0}, {13, 0}, {255, 0}, {12, 65535}, {0, 300}, {0, 301}, {0, 511}, {0, 65534}, {11, 300}};
        for (int[] row : none) {
            Twins.refusedWithTape(t, "WALKER " + row[0] + " in " + row[1], Promises16To20Test::full,
                y -> Tester.see(y, rows(1, row[0], row[1])), -1, 1);
            // Also where the last of 16 rows alone is none.
            Twins.refusedWithTape(t, "the last of 16: WALKER " + row[0] + " in " + row[1], Promises16To20Test::full, y -> {
                int[] bytes = rows(16, 0, 20);
                System.arraycopy(rows(1, row[0], row[1]), 0, bytes, 45, 3);
                return Tester.see(y, bytes);
            }, -1, 1);
        }
        Twins.refusedWithTape(t, "no WALKERS", () -> Tester.made(Texts.PLAIN), y -> Tester.see(y, 0, 0, 0), -1, 1);
        Twins.refusedWithTape(t, "no crossing", PressAndWait::new, y -> Tester.see(y, 0, 0, 0), -1, 1);
        Twins.refusedWithTape(t, "no crossing, nothing", PressAndWait::new, y -> y.see(), -1, 1);
        Twins.refusedWithTape(t, "a text", Twins::busy, y -> y.see(), -1, 1);
    }

    private static void fitsAre(String name, PressAndWait x, int count, int rules, int green) {
        t.due(name + ": fits(0)", x.fits(0), count);
        t.due(name + ": fits(1)", x.fits(1), rules);
        t.due(name + ": fits(2)", x.fits(2), green);
    }

    private static void fits() {
        t.says("Promise 19", "RULES and greens by what is SEEN (all, if nothing is): how many (what 0), RULES, as bits "
            + "(1), the least green (2; NONE without).");
        fitsAre("nothing is SEEN", Tester.made(Texts.first(120, 1, 0, 0)), 60, 7, 1);
        fitsAre("nothing is SEEN, the shortest cycle", Tester.made(Texts.first(10, 1, 0, 0)), 27, 7, 1);
        PressAndWait x = Tester.made(Texts.first(60, 5, 0, 0) + Texts.kind("k", 0, 5, 1) + Texts.come("k", 12));
        // At 12: by RULE 0 from 17 on, by RULE 1 from 5 on. At 60: by RULE 0 from 5 to 16, by RULE 2 from 5 on.
        Tester.see(x, 0, 0, 12);
        fitsAre("at once", x, 4 + 16, 3, 5);
        Tester.see(x, 0, 0, 60);
        fitsAre("at 60", x, 12 + 16, 5, 5);
        Tester.see(x, 0, 255, 255);
        fitsAre("not at all", x, 12, 7, 1);
        Tester.see(x, 0, 0, 13);
        fitsAre("by none", x, 0, 0, -1);
        // RULE 2 alone, RULE 1 alone, and the greatest green.
        x = Tester.made(Texts.first(60, 5, 0, 0) + Texts.kind("k", 0, 20, 1) + Texts.come("k", 12));
        Tester.see(x, 0, 0, 12);
        fitsAre("RULE 1 with 20", x, 1, 2, 20);
        Tester.see(x, 0, 0, 60);
        fitsAre("RULES 0 and 2 with 20", x, 2, 5, 20);
        Tester.see(x, 0, 0, 61);
        fitsAre("by none", x, 0, 0, -1);
        Twins.answers(t, "fits(0)", Twins::busy, y -> y.fits(0), Twins.busy().fits(0));
    }

    private static void noneFits() {
        t.says("Promise 19", "NONE for others, or without a crossing.");
        for (int what : new int[] {-1, 3, 4, MIN, MAX}) {
            none("fits(" + what + ")", y -> y.fits(what));
        }
        for (int what = -1; what <= 3; what++) {
            int asked = what;
            withoutCrossing("fits(" + what + ")", y -> y.fits(asked));
        }
    }

    private static void watched() {
        t.says("Promise 20", "WATCHED: the WALKER (what 0), how many are left at the most (1).");
        String start = Texts.first(120, 1, 0, 0) + Texts.kind("k", 0, 1, 0);
        PressAndWait x = Tester.made(start + Texts.come("k", 0, 0, 0, 0, 0, 0, 0, 0, 0, 0, 0, 10));
        t.due("of like ones the first", x.watched(0), 0);
        t.due("40 by RULES 1 and 2", x.watched(1), 40);
        Tester.see(x, 0, 0, 0);
        t.due("the last of twelve", x.watched(0), 11);
        t.due("10 and 10", x.watched(1), 10);
        // One that is left is left.
        x = Tester.made(Texts.first(120, 1, 0, 0) + Texts.kind("k", 0, 20, 0) + Texts.come("k", 0));
        Tester.see(x, 0, 0, 0);
        t.due("one fits: watched(0)", x.watched(0), 0);
        t.due("one fits: watched(1)", x.watched(1), 1);
        Twins.answers(t, "watched(0)", Promises16To20Test::full, y -> y.watched(0), 0);
    }

    private static void noneWatched() {
        t.says("Promise 20", "NONE when none fits, without WALKERS, without a crossing, or for others.");
        PressAndWait x = full();
        Tester.see(x, 0, 0, 21);
        t.due("none fits", x.fits(0), 0);
        t.due("none fits: watched(0)", x.watched(0), -1);
        t.due("none fits: watched(1)", x.watched(1), -1);
        for (int what = 0; what < 2; what++) {
            t.due("no WALKERS: watched(" + what + ")", Tester.made(Texts.PLAIN).watched(what), -1);
            t.due("KINDS alone: watched(" + what + ")", Tester.made(Texts.PLAIN + Texts.kinds(6, 0, 1, 0)).watched(what), -1);
        }
        for (int what = -1; what <= 2; what++) {
            int asked = what;
            withoutCrossing("watched(" + what + ")", y -> y.watched(asked));
        }
        for (int what : new int[] {-1, 2, 3, MIN, MAX}) {
            Twins.answers(t, "watched(" + what + ")", Promises16To20Test::full, y -> y.watched(what), -1);
        }
    }
}
