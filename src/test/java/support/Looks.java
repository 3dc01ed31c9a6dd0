/** What tests ask of a DAY, many answers at once. */
final class Looks {
    private Looks() {
    }

    /** Green in just these SECONDS: pairs of the first and the last. */
    static void greenIn(Tester t, String name, PressAndWait x, int... pairs) {
        for (int s = 0; s < 300; s++) {
            boolean green = false;
            for (int k = 0; k < pairs.length; k += 2) {
                green |= s >= pairs[k] && s <= pairs[k + 1];
            }
            t.due(name + ": light(" + s + ")", x.light(s), green ? 1 : 0);
        }
        t.due(name + ": light(300)", x.light(300), -1);
        t.due(name + ": light(-1)", x.light(-1), -1);
    }

    /** When each WALKER crosses or GOES, and what he has waited by then. */
    static void leaves(Tester t, String name, PressAndWait x, int... seconds) {
        for (int w = 0; w < seconds.length; w++) {
            t.due(name + ": walker(" + w + ", 2)", x.walker(w, 2), seconds[w]);
            int until = seconds[w] < 0 ? 300 : seconds[w];
            t.due(name + ": walker(" + w + ", 3)", x.walker(w, 3), until - x.walker(w, 1));
        }
    }

    static void presses(Tester t, String name, PressAndWait x, int... want) {
        int all = 0;
        for (int w = 0; w < want.length; w++) {
            t.due(name + ": walker(" + w + ", 6)", x.walker(w, 6), want[w]);
            all += want[w];
        }
        t.due(name + ": day(5)", x.day(5), all);
    }

    static void dayIs(Tester t, String name, PressAndWait x, int... want) {
        for (int what = 0; what < want.length; what++) {
            t.due(name + ": day(" + what + ")", x.day(what), want[what]);
        }
        t.due(name + ": day(6)", x.day(6), -1);
        t.due(name + ": day(-1)", x.day(-1), -1);
    }

    /** How each KIND trusts, from the first on. */
    static void trusts(Tester t, String name, PressAndWait x, int... want) {
        for (int k = 0; k < want.length; k++) {
            t.due(name + ": kind(" + k + ", 2)", x.kind(k, 2), want[k]);
        }
    }

    /** has(3), has(4), has(5), has(7): DAY, RULE, green, ACTS. */
    static void state(Tester t, String name, PressAndWait x, int day, int rule, int green, int acts) {
        t.due(name + ": DAY", x.has(3), day);
        t.due(name + ": RULE", x.has(4), rule);
        t.due(name + ": green", x.has(5), green);
        t.due(name + ": ACTS", x.has(7), acts);
    }
}
