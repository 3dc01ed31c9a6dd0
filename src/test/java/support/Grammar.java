import java.util.ArrayDeque;
import java.util.Arrays;
import java.util.Deque;
import java.util.HashSet;
import java.util.List;
import java.util.Set;

/**
 * The grammar of the document once more, as a stack of what is still due: which FAULT a text has, and where.
 * A symbol is a sign ("';"), a word ("=cycle"), a number ("#0,9"), a name, or one of the rules by name.
 */
final class Grammar {
    private static final List<String> CAR = Arrays.asList("second", "day", "phase");
    private static final List<String> LEARNS = Arrays.asList("second", "day", "waited", "calm", "pace", "trusts");
    private static final List<String> RED = Arrays.asList("second", "day", "waited", "calm", "pace", "trusts", "gap", "reds");
    private static final List<String> QUESTION = Arrays.asList("number", "second", "waited", "went", "harm", "calm", "pace",
        "trusts", "day", "kind");

    private final String text;
    private final Deque<String> due = new ArrayDeque<>();
    private final Set<String> kinds = new HashSet<>();
    private final Set<String> walkers = new HashSet<>();
    private final Set<String> once = new HashSet<>();
    private List<String> parts = QUESTION;
    private int at = 0;
    private String token = "";
    private int open = 0;
    private int statements = 0;
    private int cycle = 0;
    int fault = 0;
    int place = -1;

    private Grammar(String text) {
        this.text = text;
    }

    static Grammar ofCrossing(String text) {
        Grammar g = new Grammar(text);
        g.read("STATEMENTS");
        return g;
    }

    static Grammar ofQuestion(String text) {
        Grammar g = new Grammar(text);
        g.read("QUESTION");
        return g;
    }

    private void read(String start) {
        due.push(start);
        look();
        while (fault == 0 && !due.isEmpty()) {
            meet(due.pop());
        }
        if (fault == 0 && !token.isEmpty()) {
            wrong(1, at);
        }
    }

    private void wrong(int what, int where) {
        fault = what;
        place = where;
    }

    private void push(String... symbols) {
        for (int k = symbols.length - 1; k >= 0; k--) {
            due.push(symbols[k]);
        }
    }

    private static boolean letter(char c) {
        return c >= 'a' && c <= 'z';
    }

    private static boolean digit(char c) {
        return c >= '0' && c <= '9';
    }

    /** The token from here on, behind blanks: a word, a number, a sign, or nothing at the end. */
    private void look() {
        int from = at;
        while (at < text.length() && (text.charAt(at) == '\n' || text.charAt(at) == ' ')) {
            at++;
        }
        int end = at;
        if (end < text.length()) {
            char c = text.charAt(end);
            do {
                end++;
            } while (end < text.length() && (letter(c) && letter(text.charAt(end)) || digit(c) && digit(text.charAt(end))));
        }
        token = text.substring(at, end);
        boolean beside = at == from && at > 0 && Character.isLetterOrDigit(text.charAt(at - 1)) && text.charAt(at - 1) < 128;
        if (beside && !token.isEmpty() && (letter(token.charAt(0)) || digit(token.charAt(0)))) {
            wrong(1, at);
        }
    }

    private void next() {
        at += token.length();
        look();
    }

    private boolean isWord() {
        return !token.isEmpty() && letter(token.charAt(0));
    }

    private boolean isNumber() {
        return !token.isEmpty() && digit(token.charAt(0));
    }

    private void meet(String symbol) {
        switch (symbol.charAt(0)) {
            case '\'':
            case '=': literal(symbol.substring(1)); return;
            case '#': number(symbol.substring(1).split(",")); return;
            case '+': newName(symbol); return;
            case '?': oldName(); return;
            default: rule(symbol);
        }
    }

    private void literal(String want) {
        if (token.equals(want)) {
            next();
        } else {
            wrong(1, at);
        }
    }

    private void number(String[] range) {
        if (!isNumber()) {
            wrong(1, at);
        } else if (token.length() > 4) {
            wrong(1, at + 4);
        } else {
            int value = Integer.parseInt(token);
            int most = range[1].equals("green") ? Math.min(60, cycle - 1) : Integer.parseInt(range[1]);
            cycle = range[1].equals("120") ? value : cycle;
            if (value < Integer.parseInt(range[0]) || value > most) {
                wrong(2, at);
            } else {
                next();
            }
        }
    }

    private boolean name() {
        if (!isWord() || Arrays.asList(Texts.OWN_WORDS).contains(token)) {
            wrong(1, at);
        } else if (token.length() > 6) {
            wrong(1, at + 6);
        }
        return fault == 0;
    }

    private void newName(String sort) {
        if (name()) {
            if (kinds.contains(token) || walkers.contains(token)) {
                wrong(3, at);
            } else {
                (sort.equals("+kind") ? kinds : walkers).add(token);
                next();
            }
        }
    }

    private void oldName() {
        if (name()) {
            if (kinds.contains(token)) {
                next();
            } else {
                wrong(3, at);
            }
        }
    }

    /** What opens here: one more is open, until a CLOSE. */
    private void enter(String... symbols) {
        if (open == 6) {
            wrong(4, at);
        } else {
            open++;
            push(symbols);
            next();
        }
    }

    private void chain(String signs, String... symbols) {
        if (!token.isEmpty() && Arrays.asList(signs.split(" ")).contains(token)) {
            push(symbols);
            next();
        }
    }

    private void rule(String symbol) {
        switch (symbol) {
            case "STATEMENTS": statement(); break;
            case "QUESTION": question(); break;
            case "TEST": push("BOTH", "OR"); break;
            case "OR": chain("or", "BOTH", "OR"); break;
            case "BOTH": push("FACT", "AND"); break;
            case "AND": chain("and", "FACT", "AND"); break;
            case "FACT": fact(); break;
            case "SIGN": sign(); break;
            case "SUM": push("PRODUCT", "MORE"); break;
            case "MORE": chain("+ -", "PRODUCT", "MORE"); break;
            case "PRODUCT": push("PART", "TIMES"); break;
            case "TIMES": chain("* /", "PART", "TIMES"); break;
            case "PART": part(); break;
            case "PAIR": pair(); break;
            case "CLOSE": open--; break;
            default: throw new IllegalStateException(symbol);
        }
    }

    private void statement() {
        if (token.isEmpty()) {
            if (statements == 0) {
                wrong(1, at);
            }
            return;
        }
        statements++;
        if (statements == 81) {
            wrong(5, at);
        } else if (statements == 1) {
            push("=cycle", "#10,120", "=green", "#1,green", "=rule", "#0,2", "=least", "#0,99", "';", "STATEMENTS");
        } else {
            switch (token) {
                case "kind": told(kinds.size() < 6, "=kind", "+kind", "=calm", "#0,99", "=pace", "#1,20", "=trusts",
                    "#0,9"); break;
                case "comes": told(walkers.size() < 12, "=comes", "+walker", "=is", "?kind", "=at", "#0,199"); break;
                case "car": parts = CAR; told(once.add("car"), "=car", "TEST"); break;
                case "red": parts = RED; told(once.add("red"), "=red", "TEST"); break;
                case "learns": parts = LEARNS; told(once.add("learns"), "=learns", "SUM"); break;
                case "away": told(true, "=away", "#0,100"); break;
                default: wrong(1, at);
            }
        }
    }

    private void told(boolean can, String... symbols) {
        if (can) {
            push("';", "STATEMENTS");
            push(symbols);
        } else {
            wrong(5, at);
        }
    }

    private void question() {
        if (Arrays.asList("first", "last", "often").contains(token)) {
            push("TEST");
            next();
        } else if (Arrays.asList("total", "most", "least").contains(token)) {
            push("SUM");
            next();
        } else {
            wrong(1, at);
        }
    }

    private void fact() {
        switch (token) {
            case "not": enter("FACT", "CLOSE"); break;
            case "[": enter("TEST", "']", "CLOSE"); break;
            case "all": next(); break;
            default: push("SUM", "SIGN", "SUM");
        }
    }

    private void sign() {
        if (token.equals("<") || token.equals(">") || token.equals("=")) {
            next();
        } else {
            wrong(1, at);
        }
    }

    private void part() {
        if (isNumber()) {
            push("#0,9999");
        } else if (token.equals("(")) {
            enter("SUM", "')", "CLOSE");
        } else if (token.equals("min") || token.equals("max")) {
            push("PAIR");
            next();
        } else if (!parts.contains(token)) {
            wrong(1, at);
        } else if (token.equals("kind")) {
            enter("PART", "CLOSE");
        } else {
            next();
        }
    }

    private void pair() {
        if (token.equals("(")) {
            enter("SUM", "',", "SUM", "')", "CLOSE");
        } else {
            wrong(1, at);
        }
    }

    int statements() {
        return statements;
    }
}
