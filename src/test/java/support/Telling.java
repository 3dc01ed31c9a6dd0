import java.util.ArrayList;
import java.util.Arrays;
import java.util.List;
import java.util.Random;

/** Random TESTS and SUMS: each a text, and what it comes to, worked out beside it. */
final class Telling {
    static final List<String> WORDS = Arrays.asList("second", "day", "phase", "waited", "calm", "pace",
        "trusts", "gap", "reds", "number", "went", "harm");
    static final int KIND = 12;
    static final List<String> CAR = Arrays.asList("second", "day", "phase");
    static final List<String> LEARNS = Arrays.asList("second", "day", "waited", "calm", "pace", "trusts");
    static final List<String> RED = Arrays.asList("second", "day", "waited", "calm", "pace", "trusts",
        "gap", "reds");
    static final List<String> QUESTION = Arrays.asList("second", "day", "waited", "calm", "pace",
        "trusts", "number", "went", "harm");

    interface Worth {
        long of(int[] env);
    }

    /** Tokens of a text, and its worth: a TEST is worth 1 or 0. */
    static final class Told {
        final List<String> tokens = new ArrayList<>();
        Worth worth;
    }

    private final Random dice;
    private final List<String> words;

    Telling(Random dice, List<String> words) {
        this.dice = dice;
        this.words = words;
    }

    private static long within(long value) {
        return Math.max(-1000000, Math.min(1000000, value));
    }

    Told test(int open, int size) {
        return logic(open, size, 3);
    }

    Told sum(int open, int size) {
        return arithmetic(open, size, 1);
    }

    /** Level 3 is a chain by or of those of level 2, which is one by and of FACTS. */
    private Told logic(int open, int size, int level) {
        Told told = level == 3 ? logic(open, size, 2) : fact(open, size);
        for (int k = dice.nextInt(3) == 0 && size > 0 ? 1 + dice.nextInt(2) : 0; k > 0; k--) {
            Told next = level == 3 ? logic(open, size / 2, 2) : fact(open, size / 2);
            Worth a = told.worth;
            Worth b = next.worth;
            told.tokens.add(level == 3 ? "or" : "and");
            told.tokens.addAll(next.tokens);
            told.worth = level == 3
                ? env -> a.of(env) != 0 || b.of(env) != 0 ? 1 : 0
                : env -> a.of(env) != 0 && b.of(env) != 0 ? 1 : 0;
        }
        return told;
    }

    private Told fact(int open, int size) {
        Told told = new Told();
        int roll = dice.nextInt(12);
        if (roll == 0) {
            told.tokens.add("all");
            told.worth = env -> 1;
        } else if (roll <= 2 && open < 6) {
            Told inner = fact(open + 1, size);
            told.tokens.add("not");
            told.tokens.addAll(inner.tokens);
            Worth a = inner.worth;
            told.worth = env -> 1 - a.of(env);
        } else if (roll <= 4 && open < 6 && size > 0) {
            Told inner = test(open + 1, size / 2);
            told.tokens.add("[");
            told.tokens.addAll(inner.tokens);
            told.tokens.add("]");
            told.worth = inner.worth;
        } else {
            Told left = sum(open, size / 2);
            Told right = sum(open, size / 2);
            char sign = "<>=".charAt(dice.nextInt(3));
            told.tokens.addAll(left.tokens);
            told.tokens.add("" + sign);
            told.tokens.addAll(right.tokens);
            Worth a = left.worth;
            Worth b = right.worth;
            told.worth = env -> {
                int c = Long.compare(a.of(env), b.of(env));
                return (sign == '<' ? c < 0 : sign == '>' ? c > 0 : c == 0) ? 1 : 0;
            };
        }
        return told;
    }

    /** Level 1 is a chain by + and - of those of level 0, which is one by * and / of PARTS. */
    private Told arithmetic(int open, int size, int level) {
        Told told = level == 1 ? arithmetic(open, size, 0) : part(open, size);
        for (int k = size > 0 ? dice.nextInt(3) : 0; k > 0; k--) {
            Told next = level == 1 ? arithmetic(open, size / 2, 0) : part(open, size / 2);
            Worth a = told.worth;
            Worth b = next.worth;
            boolean up = dice.nextBoolean();
            told.tokens.add(level == 1 ? (up ? "+" : "-") : (up ? "*" : "/"));
            told.tokens.addAll(next.tokens);
            if (level == 1) {
                told.worth = up ? env -> within(a.of(env) + b.of(env)) : env -> within(a.of(env) - b.of(env));
            } else {
                told.worth = up ? env -> within(a.of(env) * b.of(env))
                    : env -> b.of(env) == 0 ? 0 : Math.floorDiv(a.of(env), b.of(env));
            }
        }
        return told;
    }

    private Told part(int open, int size) {
        Told told = new Told();
        int roll = dice.nextInt(10);
        if (roll < 4 || size <= 0 && roll < 5) {
            int number = dice.nextInt(4) == 0 ? dice.nextInt(10000) : dice.nextInt(40);
            told.tokens.add(dice.nextInt(8) == 0 ? String.format("%04d", number) : "" + number);
            told.worth = env -> number;
        } else if (roll == 9 && open < 6 && size > 0) {
            bracket(told, open, size);
        } else if (roll == 8 && open < 6 && words == QUESTION) {
            Told inner = part(open + 1, size / 2);
            told.tokens.add("kind");
            told.tokens.addAll(inner.tokens);
            Worth a = inner.worth;
            told.worth = env -> a.of(env) == env[KIND] ? 1 : 0;
        } else {
            String word = words.get(dice.nextInt(words.size()));
            int at = WORDS.indexOf(word);
            told.tokens.add(word);
            told.worth = env -> env[at];
        }
        return told;
    }

    private void bracket(Told told, int open, int size) {
        int sort = dice.nextInt(3);
        if (sort > 0) {
            told.tokens.add(sort == 1 ? "min" : "max");
        }
        Told first = sum(open + 1, size / 2);
        told.tokens.add("(");
        told.tokens.addAll(first.tokens);
        Worth a = first.worth;
        told.worth = a;
        if (sort > 0) {
            Told second = sum(open + 1, size / 2);
            told.tokens.add(",");
            told.tokens.addAll(second.tokens);
            Worth b = second.worth;
            told.worth = sort == 1 ? env -> Math.min(a.of(env), b.of(env)) : env -> Math.max(a.of(env), b.of(env));
        }
        told.tokens.add(")");
    }

    /** The tokens as a text: blanks where one likes, and where they are needed. */
    static String text(List<String> tokens, Random dice) {
        StringBuilder text = new StringBuilder();
        for (String token : tokens) {
            boolean needed = text.length() > 0 && Character.isLetterOrDigit(text.charAt(text.length() - 1))
                && Character.isLetterOrDigit(token.charAt(0));
            int blanks = (needed ? 1 : 0) + (dice.nextInt(12) == 0 ? dice.nextInt(3) : 0);
            for (int k = 0; k < blanks; k++) {
                text.append(dice.nextInt(4) == 0 ? '\n' : ' ');
            }
            text.append(token);
        }
        return text.toString();
    }
}
