import java.util.ArrayList;
import java.util.List;
import java.util.Random;

/**
 * Promises 4 to 32 on random crossings: the class beside the plain model of the document. No object is used
 * for more than 512 calls, as behind them all is free.
 */
public final class ModelTest {
    private static final Tester t = new Tester("ModelTest");
    /** None of call()'s takes more than what is left of 512 behind these. */
    private static final int ENOUGH = 340;
    private static final String[] QUESTIONS = {"first", "last", "often", "total", "most", "least"};

    public static void main(String[] args) {
        int runs = args.length > 0 ? Integer.parseInt(args[0]) : 600;
        long from = args.length > 1 ? Long.parseLong(args[1]) : 0;
        for (long run = from; run < from + runs && t.wrong() == 0; run++) {
            one(run);
        }
        t.finish();
    }

    private static void one(long run) {
        Random dice = Tester.dice(run);
        PressAndWait x = new PressAndWait();
        int before = t.calls();
        long seed = 1;
        for (int again = dice.nextInt(2); again >= 0; again--) {
            Model m = Model.random(dice, seed);
            if (m.text.length() > 1600) {
                continue;
            }
            String name = "run " + run + " [" + m.text + "] ";
            t.due(name + "crossing", Tester.crossing(x, m.text), m.statements);
            t.due(name + "fault", x.fault(0), 0);
            int most = again > 0 ? ENOUGH / 2 : ENOUGH;
            for (int k = 0; t.calls() - before < most && t.wrong() == 0; k++) {
                call(name + "call " + k + " ", x, m, dice);
            }
            seed = m.seed;
        }
    }

    private static void call(String name, PressAndWait x, Model m, Random dice) {
        switch (dice.nextInt(20)) {
            case 0: wholeDay(name, x, m, dice); break;
            case 1: best(name, x, m, dice); break;
            case 2: t.due(name + "least", x.least(), m.least()); break;
            case 3: t.due(name + "hold", x.hold(), m.hold()); break;
            case 4:
            case 5: later(name, x, m, dice); break;
            case 6: doubts(name, x, m); break;
            case 7: see(name, x, m, dice); break;
            case 8: fits(name, x, m); break;
            case 9:
            case 10: ask(name, x, m, dice); break;
            case 11: image(name, x, m, dice); break;
            default: act(name, x, m, dice);
        }
    }

    private static void wholeDay(String name, PressAndWait x, Model m, Random dice) {
        Model.OneDay d = m.today();
        for (int what = -1; what <= 6; what++) {
            t.due(name + "day(" + what + ")", x.day(what), m.told(d, what));
        }
        int step = 9 + dice.nextInt(9);
        for (int s = dice.nextInt(step); s < 320; s += step) {
            t.due(name + "light(" + s + ")", x.light(s), s >= 300 ? -1 : d.green[s] ? 1 : 0);
            t.due(name + "car(" + s + ")", x.car(s), m.carIn(s, m.day) ? 1 : 0);
        }
        for (int w = 0; w < m.walkers; w++) {
            int[] want = {m.kindOf[w], m.comesAt[w], d.leaves[w], d.waited[w], d.went[w] ? 1 : 0,
                d.harmed[w] ? 1 : 0, d.pressed[w] ? 1 : 0};
            for (int what = 0; what < want.length; what++) {
                t.due(name + "walker(" + w + ", " + what + ")", x.walker(w, what), want[what]);
            }
        }
    }

    private static void best(String name, PressAndWait x, Model m, Random dice) {
        int harmed = dice.nextInt(4) == 0 ? dice.nextInt(15) - 1 : dice.nextInt(3);
        for (int what = 0; what < 3; what++) {
            t.due(name + "best(" + harmed + ", " + what + ")", x.best(harmed, what), m.best(harmed, what));
        }
    }

    private static void later(String name, PressAndWait x, Model m, Random dice) {
        int n = dice.nextInt(32) - 1;
        int what = dice.nextInt(6);
        t.due(name + "later(" + n + ", " + what + ")", x.later(n, what), m.later(n, what));
    }

    private static void doubts(String name, PressAndWait x, Model m) {
        for (int k = -1; k <= m.kinds; k++) {
            t.due(name + "doubts(" + k + ")", x.doubts(k), m.doubts(k));
        }
    }

    /** Mostly rows that are so by some RULE and green, at times others. */
    private static void see(String name, PressAndWait x, Model m, Random dice) {
        if (m.walkers == 0) {
            t.due(name + "see", Tester.see(x, 0, 0, 0), -1);
            return;
        }
        Model.OneDay d = m.live(m.day, dice.nextInt(3), 1 + dice.nextInt(Math.min(20, m.cycle - 1)), m.trusts, 0, 0);
        int rows = 1 + dice.nextInt(3);
        int[] bytes = new int[3 * rows];
        List<int[]> seen = new ArrayList<>();
        for (int k = 0; k < rows; k++) {
            int w = dice.nextInt(m.walkers);
            int second = dice.nextInt(8) == 0 ? dice.nextInt(300) : d.leaves[w];
            seen.add(new int[] {w, second});
            bytes[3 * k] = w;
            bytes[3 * k + 1] = second < 0 ? 255 : second / 256;
            bytes[3 * k + 2] = second < 0 ? 255 : second % 256;
        }
        m.seen.clear();
        m.seen.addAll(seen);
        t.due(name + "see", Tester.see(x, bytes), rows);
    }

    private static void fits(String name, PressAndWait x, Model m) {
        t.due(name + "has(6)", x.has(6), m.seen.size());
        for (int what = -1; what <= 3; what++) {
            t.due(name + "fits(" + what + ")", x.fits(what), m.fits(what));
        }
        for (int what = -1; what <= 2; what++) {
            t.due(name + "watched(" + what + ")", x.watched(what), m.watched(what));
        }
    }

    private static void ask(String name, PressAndWait x, Model m, Random dice) {
        int sort = dice.nextInt(6);
        Telling telling = new Telling(dice, Telling.QUESTION);
        Telling.Told told = sort < 3 ? telling.test(0, 12) : telling.sum(0, 12);
        told.tokens.add(0, QUESTIONS[sort]);
        String text = Telling.text(told.tokens, dice);
        t.due(name + "ask(" + text + ")", Tester.ask(x, text), m.ask(sort, told.worth));
        t.due(name + "fault", x.fault(0), 0);
    }

    private static void image(String name, PressAndWait x, Model m, Random dice) {
        int[] trusts = new int[m.kinds];
        System.arraycopy(m.trusts, 0, trusts, 0, m.kinds);
        int[] want = Tester.image(m.day, m.rule, m.greenTime, trusts);
        t.due(name + "image", x.image(), want.length);
        for (int k = 0; k <= want.length; k++) {
            t.due(name + "octet(" + k + ")", x.octet(k), k < want.length ? want[k] : -1);
        }
        if (dice.nextBoolean()) {
            m.day = dice.nextInt(3) == 0 ? 960 + dice.nextInt(40) : dice.nextInt(1000);
            m.trusts = m.trusts.clone();
            for (int k = 0; k < m.kinds; k++) {
                m.trusts[k] = dice.nextInt(10);
                trusts[k] = m.trusts[k];
            }
            m.acts.clear();
            t.due(name + "on", Tester.on(x, Tester.image(m.day, m.rule, m.greenTime, trusts)), true);
        }
    }

    private static void act(String name, PressAndWait x, Model m, Random dice) {
        int a = dice.nextInt(10) - 2;
        int b = dice.nextInt(12) - 1;
        switch (dice.nextInt(7)) {
            case 0: t.due(name + "rule(" + a + ")", x.rule(a), m.rule(a)); break;
            case 1: t.due(name + "green(" + b + ")", x.green(b), m.green(b)); break;
            case 2: t.due(name + "trust(" + a + ", " + b + ")", x.trust(a, b), m.trust(a, b)); break;
            case 3: t.due(name + "days(" + b + ")", x.days(b), m.days(b, false)[0]); break;
            case 4: t.due(name + "chance(" + b + ")", x.chance(b), m.days(b, true)[1]); break;
            case 5: t.due(name + "undo", x.undo(), m.undo()); break;
            default:
                int seed = dice.nextInt();
                t.due(name + "seed(" + seed + ")", x.seed(seed), seed >= 0);
                m.seed = seed >= 0 ? seed : m.seed;
        }
        int[] has = {m.cycle, m.kinds, m.walkers, m.day, m.rule, m.greenTime, m.seen.size(), m.acts.size()};
        for (int what = 0; what < has.length; what++) {
            t.due(name + "has(" + what + ")", x.has(what), has[what]);
        }
        for (int k = 0; k < m.kinds; k++) {
            t.due(name + "kind(" + k + ", 2)", x.kind(k, 2), m.trusts[k]);
        }
    }
}
