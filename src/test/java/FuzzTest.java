import java.util.Random;

/** No call ever throws, for any arguments in any state; and what cannot be is answered as such. */
public final class FuzzTest {
    private static final Tester t = new Tester("FuzzTest");
    private static final String[] PIECES = {"cycle", "green", "rule", "least", "kind", "calm", "pace", "trusts",
        "comes", "is", "at", "car", "red", "learns", "away", "second", "day", "phase", "waited", "gap", "reds",
        "number", "went", "harm", "or", "and", "not", "all", "min", "max", "first", "often", "total", "a", "b",
        "abcdefg", "0", "1", "20", "12345", "9999", ";", ";", "(", ")", "[", "]", "<", ">", "=", "+", "-", "*",
        "/", ",", "\n", "A", "_", "\u00e9"};
    private static final String START = "cycle 20 green 6 rule 0 least 5;kind a calm 1 pace 4 trusts 3;";

    public static void main(String[] args) {
        for (int run = 0; run < 400; run++) {
            Random dice = Tester.dice(run);
            PressAndWait x = new PressAndWait();
            for (int k = 0; k < 100; k++) {
                try {
                    call(x, dice, dice.nextInt(34));
                    t.due("call", 0, 0);
                } catch (RuntimeException | StackOverflowError e) {
                    t.due("run " + run + " call " + k + " threw " + e, 1, 0);
                    e.printStackTrace(System.out);
                    break;
                }
            }
        }
        t.finish();
    }

    private static int any(Random dice) {
        int[] edges = {Integer.MIN_VALUE, Integer.MAX_VALUE, -1, 0, 1, 2, 299, 300, 319, 320, 999};
        int sort = dice.nextInt(4);
        return sort == 0 ? dice.nextInt() : sort == 1 ? edges[dice.nextInt(edges.length)] : dice.nextInt(15) - 1;
    }

    private static void text(PressAndWait x, Random dice) {
        x.end(0);
        if (dice.nextInt(3) == 0) {
            String cut = Model.random(dice, 1).text;
            Tester.tape(x, cut.substring(0, dice.nextInt(Math.min(cut.length(), 1600))));
            return;
        }
        StringBuilder text = new StringBuilder(dice.nextBoolean() ? START : "");
        for (int k = dice.nextInt(60); k > 0; k--) {
            text.append(PIECES[dice.nextInt(PIECES.length)]).append(dice.nextInt(3) > 0 ? " " : "");
        }
        Tester.tape(x, text.toString());
    }

    private static void call(PressAndWait x, Random dice, int which) {
        int a = any(dice);
        int b = any(dice);
        int c = any(dice);
        switch (which) {
            case 0: x.feed(a, b, c, any(dice), any(dice)); break;
            case 1: x.end(a); break;
            case 2: text(x, dice); check(x, x.crossing()); break;
            case 3: whole(x, dice); break;
            case 4: x.fault(a); break;
            case 5: x.has(a); break;
            case 6: x.letter(a, b, c); break;
            case 7: x.kind(a, b); break;
            case 8: x.walker(a, b); break;
            case 9: x.light(a); break;
            case 10: x.car(a); break;
            case 11: x.day(a); break;
            case 12: x.best(a, b); break;
            case 13: x.least(); break;
            case 14: x.hold(); break;
            case 15: x.later(a, b); break;
            case 16: x.doubts(a); break;
            case 17: x.see(); break;
            case 18: x.fits(a); break;
            case 19: x.watched(a); break;
            case 20: x.rule(a); break;
            case 21: x.green(a); break;
            case 22: x.trust(a, b); break;
            case 23: x.days(a); break;
            case 24: x.chance(a); break;
            case 25: x.undo(); break;
            case 26: x.seed(a); break;
            case 27: text(x, dice); x.ask(); break;
            case 28: x.ask(); break;
            case 29: x.image(); break;
            case 30: x.octet(a); break;
            case 31: x.on(); break;
            case 32: x.status(a); break;
            default: x.crossing();
        }
    }

    private static void whole(PressAndWait x, Random dice) {
        String text = Model.random(dice, 1).text;
        x.end(0);
        if (text.length() <= 1600) {
            Tester.tape(x, text);
            t.due(text, x.crossing() > 0, true);
        }
    }

    /** A FAULT has a place within the text, or at its end; without one there is none. */
    private static void check(PressAndWait x, int answer) {
        t.due("fault and answer", x.fault(0) != 0, answer == -1);
        t.due("fault and place", x.fault(1) >= 0, answer == -1);
    }
}
