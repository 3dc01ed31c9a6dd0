import java.util.ArrayList;
import java.util.List;
import java.util.Random;

/** FAULTS of Terms I and IV in random texts that are nearly right: the class beside the grammar of the tests. */
public final class FaultTest {
    private static final Tester t = new Tester("FaultTest");
    private static final String[] PIECES = {"cycle", "green", "rule", "least", "kind", "calm", "pace", "trusts", "comes",
        "is", "at", "car", "red", "learns", "away", "second", "day", "phase", "waited", "gap", "reds", "number", "went",
        "harm", "or", "and", "not", "all", "min", "max", "ka", "wa", "x", "abcdef", "abcdefg", "0", "1", "9", "10", "20", "21",
        "60", "99", "100", "101", "120", "121", "199", "200", "9999", "12345", ";", "(", ")", "[", "]", "<", ">", "=", "+", "-",
        "*", "/", ",", "A", "\t", "first", "last", "often", "total", "most"};
    private static final String START = "cycle 20 green 6 rule 0 least 5;kind ka calm 1 pace 4 trusts 3;comes wa is ka at 7;";
    private static final int[] met = new int[6];

    public static void main(String[] args) {
        int runs = args.length > 0 ? Integer.parseInt(args[0]) : 30000;
        for (int run = 0; run < runs && t.wrong() == 0; run++) {
            Random dice = Tester.dice(run);
            crossing(nearly(crossingTokens(dice), dice));
            question(nearly(questionTokens(dice), dice));
        }
        for (int fault = 0; fault <= 5; fault++) {
            t.due("FAULT " + fault + " is met often", met[fault] > runs / 500, true);
        }
        t.finish();
    }

    private static void crossing(String text) {
        if (text.length() > 1600) {
            return;
        }
        Grammar want = Grammar.ofCrossing(text);
        PressAndWait x = new PressAndWait();
        t.due(text, Tester.crossing(x, text), want.fault == 0 ? want.statements() : -1);
        t.due("fault(0) of " + text, x.fault(0), want.fault);
        t.due("fault(1) of " + text, x.fault(1), want.place);
        met[want.fault]++;
    }

    private static void question(String text) {
        if (text.length() > 1600) {
            return;
        }
        Grammar want = Grammar.ofQuestion(text);
        PressAndWait x = Tester.made(START);
        t.due("ask of " + text, Tester.ask(x, text) == PressAndWait.NOTHING, want.fault != 0);
        t.due("fault(0) of " + text, x.fault(0), want.fault);
        t.due("fault(1) of " + text, x.fault(1), want.place);
        met[want.fault]++;
    }

    private static List<String> crossingTokens(Random dice) {
        List<String> tokens = new ArrayList<>(List.of("cycle", "" + (9 + dice.nextInt(4)), "green", "" + (1 + dice.nextInt(10)),
            "rule", "" + dice.nextInt(3), "least", "" + (dice.nextInt(100)), ";"));
        for (int k = dice.nextInt(10); k > 0; k--) {
            statement(tokens, dice, dice.nextInt(7));
        }
        return tokens;
    }

    private static void statement(List<String> tokens, Random dice, int sort) {
        String name = "" + (char) ('a' + dice.nextInt(dice.nextBoolean() ? 3 : 26));
        switch (sort) {
            case 0: tokens.addAll(List.of("kind", "k" + name, "calm", "1", "pace", "2", "trusts", "" + dice.nextInt(10))); break;
            case 1: tokens.addAll(List.of("kind", "ka", "calm", "1", "pace", "2", "trusts", "3")); break;
            case 2: tokens.addAll(List.of("comes", "w" + name, "is", "ka", "at", "" + dice.nextInt(200))); break;
            case 3: test(tokens, "car", new Telling(dice, Telling.CAR).test(dice.nextInt(2), 16), deep(dice, "not", "[")); break;
            case 4: test(tokens, "red", new Telling(dice, Telling.RED).test(0, 6), deep(dice, "not", "[")); break;
            case 5: test(tokens, "learns", new Telling(dice, Telling.LEARNS).sum(0, 6), deep(dice, "(", "min(")); break;
            default: tokens.addAll(List.of("away", "" + dice.nextInt(101)));
        }
        tokens.add(";");
    }

    private static void test(List<String> tokens, String word, Telling.Told told, List<String> opening) {
        tokens.add(word);
        tokens.addAll(opening);
        tokens.addAll(told.tokens);
    }

    /** Up to eight that open. Nothing closes them: so the text has FAULT 4, or goes wrong behind its TEST. */
    private static List<String> deep(Random dice, String one, String other) {
        List<String> tokens = new ArrayList<>();
        for (int k = dice.nextInt(3) == 0 ? dice.nextInt(9) : 0; k > 0; k--) {
            String opens = dice.nextBoolean() ? one : other;
            tokens.addAll(opens.equals("min(") ? List.of("min", "(") : List.of(opens));
        }
        return tokens;
    }

    private static List<String> questionTokens(Random dice) {
        boolean test = dice.nextBoolean();
        List<String> tokens = new ArrayList<>(List.of(test ? "often" : "total"));
        tokens.addAll(test ? deep(dice, "not", "[") : deep(dice, "kind", "("));
        Telling telling = new Telling(dice, Telling.QUESTION);
        tokens.addAll((test ? telling.test(0, 8) : telling.sum(0, 8)).tokens);
        return tokens;
    }

    /** None, one or two of its tokens are others; at times a blank is missing, or the end. */
    private static String nearly(List<String> tokens, Random dice) {
        for (int k = dice.nextInt(3); k > 0 && !tokens.isEmpty(); k--) {
            int at = dice.nextInt(tokens.size());
            String piece = PIECES[dice.nextInt(PIECES.length)];
            switch (dice.nextInt(4)) {
                case 0: tokens.remove(at); break;
                case 1: tokens.add(at, piece); break;
                case 2: tokens.set(at, piece); break;
                default: tokens.add(at, tokens.get(dice.nextInt(tokens.size())));
            }
        }
        String text = Telling.text(tokens, dice);
        if (dice.nextInt(6) == 0 && !text.isEmpty()) {
            text = text.substring(0, dice.nextInt(text.length()));
        }
        int blank = text.indexOf(' ', dice.nextInt(text.length() + 1));
        if (dice.nextInt(8) == 0 && blank >= 0) {
            text = text.substring(0, blank) + text.substring(blank + 1);
        }
        return text;
    }
}
