import java.util.ArrayList;
import java.util.List;

/**
 * Two objects made by the same calls. What is refused of the one must leave it as the other is: this is
 * looked at from all sides, with a new pair for each, so that none is used for more than 512 calls.
 */
final class Twins {
    interface Making {
        PressAndWait made();
    }

    interface Call {
        long on(PressAndWait x);
    }

    private interface View {
        void look(PressAndWait x, List<Long> answers);
    }

    private static final int[] SECONDS = {0, 1, 2, 5, 6, 7, 9, 10, 19, 20, 26, 59, 60, 100, 199, 200, 298, 299};
    private static final View[] VIEWS = {Twins::images, Twins::names, Twins::things, Twins::thisDay,
        Twins::choices, Twins::ahead, Twins::seen, Twins::acts, Twins::draws, Twins::tape};
    private static final int NO_STATUS = -1;

    /** A crossing with all sorts of statements, lived with for a while; a text waits on the tape. */
    static PressAndWait busy() {
        PressAndWait x = Tester.made("cycle 20 green 6 rule 0 least 5;kind kid calm 3 pace 4 trusts 2;"
            + "kind old calm 30 pace 6 trusts 9;comes ann is kid at 0;comes bob is old at 3;"
            + "comes cid is kid at 10;car phase>7 and phase<12;red waited>calm and gap>pace-1;"
            + "learns 1-waited/10;away 50;");
        x.end(5);
        x.crossing();
        x.rule(9);
        x.days(0);
        x.days(31);
        x.seed(-1);
        x.undo();
        Tester.see(x, 0, 0, 0, 1, 0, 20);
        x.green(7);
        x.image();
        x.rule(1);
        x.trust(1, 5);
        x.days(2);
        x.seed(77);
        x.chance(3);
        Tester.ask(x, "total (");
        Tester.tape(x, "cycle 30 green 5 rule 2 least 8;");
        return x;
    }

    private Twins() {
    }

    /** A call that is refused, and leaves the tape as it is. */
    static void refused(Tester t, String name, Making making, Call call, long answer, int status) {
        stays(t, name, making, call, answer, status, false, true);
    }

    /** A call that takes the tape and is refused; fault() stays, too. */
    static void refusedWithTape(Tester t, String name, Making making, Call call, long answer, int status) {
        stays(t, name, making, call, answer, status, true, true);
    }

    /** A crossing() that is refused: the tape goes, and fault() tells of it. */
    static void refusedWithFault(Tester t, String name, Making making, Call call, long answer, int status) {
        stays(t, name, making, call, answer, status, true, false);
    }

    /** A call that answers and changes nothing; none is counted as refused. */
    static void answers(Tester t, String name, Making making, Call call, long answer) {
        stays(t, name, making, call, answer, NO_STATUS, false, true);
    }

    /** As answers(), of a call that takes the tape and tells its FAULT. */
    static void asked(Tester t, String name, Making making, Call call, long answer) {
        stays(t, name, making, call, answer, NO_STATUS, true, false);
    }

    /** As answers(), of a call that takes the tape and leaves fault() as it is. */
    static void askedInVain(Tester t, String name, Making making, Call call, long answer) {
        stays(t, name, making, call, answer, NO_STATUS, true, true);
    }

    private static void stays(Tester t, String name, Making making, Call call, long answer, int status,
        boolean takesTape, boolean keepsFault) {
        for (int k = 0; k < VIEWS.length; k++) {
            PressAndWait x = making.made();
            PressAndWait y = making.made();
            t.due(name, call.on(x), answer);
            if (takesTape) {
                y.end(0);
            }
            for (int what = 0; what < 6; what++) {
                t.due(name + ": status(" + what + ") behind it", x.status(what),
                    y.status(what) + (what == status ? 1 : 0));
            }
            if (keepsFault) {
                t.due(name + ": fault(0) behind it", x.fault(0), y.fault(0));
                t.due(name + ": fault(1) behind it", x.fault(1), y.fault(1));
            }
            look(t, name + ": stays, view " + k, VIEWS[k], x, y);
        }
    }

    /** What is asked ahead of a change must not sway what is answered behind it. */
    static void unswayed(Tester t, String name, Making making, Call change) {
        for (int k = 0; k < VIEWS.length; k++) {
            PressAndWait x = making.made();
            PressAndWait y = making.made();
            askAll(x);
            t.due(name + ": the same answer", change.on(x), change.on(y));
            look(t, name + ": asked ahead of it, view " + k, VIEWS[k], x, y);
        }
    }

    private static void askAll(PressAndWait x) {
        x.walker(0, 2);
        x.light(0);
        x.car(0);
        x.day(0);
        x.best(0, 0);
        x.least();
        x.hold();
        x.later(29, 0);
        x.doubts(0);
        x.fits(0);
        x.watched(0);
        x.day(0);
    }

    /** Both are alike from each side; status() and fault() are not looked at, nor is the latest image. */
    static void alike(Tester t, String name, Making one, Making other) {
        for (int k = 1; k < VIEWS.length; k++) {
            look(t, name + ": alike, view " + k, VIEWS[k], one.made(), other.made());
        }
    }

    private static void look(Tester t, String name, View view, PressAndWait x, PressAndWait y) {
        List<Long> got = new ArrayList<>();
        List<Long> want = new ArrayList<>();
        view.look(x, got);
        view.look(y, want);
        t.due(name + ", how many answers", got.size(), want.size());
        for (int k = 0; k < Math.min(got.size(), want.size()); k++) {
            t.due(name + ", answer " + k, got.get(k), want.get(k));
        }
    }

    private static void names(PressAndWait x, List<Long> answers) {
        for (int k = 0; k < 6; k++) {
            for (int which = 0; which < 12; which++) {
                answers.add((long) x.letter(0, which, k));
                answers.add((long) x.letter(1, which, k));
            }
        }
    }

    private static void things(PressAndWait x, List<Long> answers) {
        state(x, answers);
        for (int what = 0; what < 7; what++) {
            for (int which = 0; which < 12; which++) {
                answers.add((long) x.kind(which, what));
                answers.add((long) x.walker(which, what));
            }
        }
    }

    private static void state(PressAndWait x, List<Long> answers) {
        for (int what = 0; what <= 8; what++) {
            answers.add((long) x.has(what));
        }
        for (int kind = 0; kind < 6; kind++) {
            answers.add((long) x.kind(kind, 2));
        }
    }

    private static void thisDay(PressAndWait x, List<Long> answers) {
        for (int second : SECONDS) {
            answers.add((long) x.light(second));
            answers.add((long) x.car(second));
        }
        for (int what = 0; what < 6; what++) {
            answers.add((long) x.day(what));
        }
    }

    private static void choices(PressAndWait x, List<Long> answers) {
        for (int harmed = 0; harmed <= 12; harmed++) {
            for (int what = 0; what < 3; what++) {
                answers.add((long) x.best(harmed, what));
            }
        }
        answers.add((long) x.least());
        answers.add((long) x.hold());
    }

    private static void ahead(PressAndWait x, List<Long> answers) {
        for (int n = 0; n < 30; n++) {
            for (int what = 0; what < 6; what++) {
                answers.add((long) x.later(n, what));
            }
        }
        for (int kind = 0; kind < 6; kind++) {
            answers.add((long) x.doubts(kind));
        }
    }

    private static void seen(PressAndWait x, List<Long> answers) {
        answers.add((long) x.has(6));
        for (int what = 0; what < 3; what++) {
            answers.add((long) x.fits(what));
            answers.add((long) x.watched(what));
        }
    }

    private static void images(PressAndWait x, List<Long> answers) {
        for (int k = 0; k < 12; k++) {
            answers.add((long) x.octet(k));
        }
    }

    private static void acts(PressAndWait x, List<Long> answers) {
        for (int k = 0; k < 22; k++) {
            answers.add((long) Tester.bit(x.undo()));
            state(x, answers);
        }
    }

    /** The seed cannot be asked for, but what is drawn by it can. */
    private static void draws(PressAndWait x, List<Long> answers) {
        for (int k = 0; k < 8; k++) {
            answers.add((long) x.chance(5));
            state(x, answers);
        }
    }

    /** How long the tape is, then what is on it. */
    private static void tape(PressAndWait x, List<Long> answers) {
        int there = x.feed(0, 0, 0, 0, 0);
        answers.add((long) there);
        answers.add((long) Tester.bit(x.end(there - 20)));
        answers.add((long) x.crossing());
        answers.add((long) x.fault(0));
        answers.add((long) x.fault(1));
        state(x, answers);
    }
}
