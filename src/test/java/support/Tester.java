import java.util.Random;

/** What the tests share: counting wrong answers, and putting texts and bytes on the tape. */
final class Tester {
    private final String name;
    private final Document document = new Document();
    private String sentence = "";
    private int asked = 0;
    private int wrong = 0;
    private static int taped = 0;

    Tester(String name) {
        this.name = name;
    }

    /** What follows tests these words of the document; it must have them in that section. */
    void says(String section, String words) {
        sentence = section + ", \"" + words + "\": ";
        due("the document says so", document.name(section, words), true);
    }

    /** Every sentence of these sections that names a boundary has been tested by now. */
    void covers(String... sections) {
        sentence = "";
        for (String section : sections) {
            String left = document.forgotten(section);
            due(section + " has no test for: " + left, left.isEmpty(), true);
        }
    }

    void due(String call, long got, long want) {
        asked++;
        if (got != want) {
            wrong++;
            if (wrong <= 40) {
                System.out.println(name + ": " + sentence + call + " answered " + got + ", due is " + want);
            }
        }
    }

    void due(String call, boolean got, boolean want) {
        due(call, bit(got), bit(want));
    }

    int wrong() {
        return wrong;
    }

    /** How many calls the tests have made, if each answer was one: those for the tape, too. */
    int calls() {
        return asked + taped;
    }

    /** A text without a FAULT: so many STATEMENTS. */
    void good(int statements, String text) {
        PressAndWait x = new PressAndWait();
        due(text, crossing(x, text), statements);
        due("fault(0) of " + text, x.fault(0), 0);
        due("fault(1) of " + text, x.fault(1), -1);
        due("status(1) of " + text, x.status(1), 0);
    }

    /** A text with a FAULT; its place is marked with | in it. */
    void bad(int fault, String marked) {
        PressAndWait x = new PressAndWait();
        due(marked, crossing(x, unmarked(marked)), -1);
        due("fault(0) of " + marked, x.fault(0), fault);
        due("fault(1) of " + marked, x.fault(1), marked.indexOf('|'));
        due("status(1) of " + marked, x.status(1), 1);
        due("has(0) of " + marked, x.has(0), 0);
    }

    static String unmarked(String marked) {
        int place = marked.indexOf('|');
        return marked.substring(0, place) + marked.substring(place + 1);
    }

    static int bit(boolean yes) {
        return yes ? 1 : 0;
    }

    void finish() {
        System.out.println(name + ": " + asked + " answers, " + wrong + " not as due");
        if (wrong != 0 || asked == 0) {
            System.exit(1);
        }
    }

    static void tape(PressAndWait x, String text) {
        int[] bytes = new int[text.length()];
        for (int k = 0; k < bytes.length; k++) {
            bytes[k] = text.charAt(k);
        }
        tape(x, bytes);
    }

    /** Filled up with spaces, then cut: so a class that leaves the tape behind it is found out. */
    static void tape(PressAndWait x, int... bytes) {
        for (int from = 0; from < bytes.length; from += 20) {
            int[] five = new int[5];
            for (int k = 0; k < 20; k++) {
                int next = from + k < bytes.length ? bytes[from + k] : 32;
                five[k / 4] = five[k / 4] << 8 | next;
            }
            taped++;
            int there = x.feed(five[0], five[1], five[2], five[3], five[4]);
            if (there != from + 20) {
                throw new IllegalStateException("the tape has " + there + " bytes, not " + (from + 20));
            }
        }
        taped++;
        if (!x.end(bytes.length)) {
            throw new IllegalStateException("end(" + bytes.length + ") was refused");
        }
    }

    static int crossing(PressAndWait x, String text) {
        tape(x, text);
        return x.crossing();
    }

    static PressAndWait made(String text) {
        PressAndWait x = new PressAndWait();
        if (crossing(x, text) < 1) {
            throw new IllegalStateException("fault " + x.fault(0) + " at " + x.fault(1) + ": " + text);
        }
        return x;
    }

    static long ask(PressAndWait x, String text) {
        tape(x, text);
        return x.ask();
    }

    static int see(PressAndWait x, int... bytes) {
        tape(x, bytes);
        return x.see();
    }

    static boolean on(PressAndWait x, int... bytes) {
        tape(x, bytes);
        return x.on();
    }

    /** Bytes as AN IMAGE has them, with the last one worked out. */
    static int[] image(int day, int rule, int green, int... trusts) {
        int[] bytes = new int[5 + trusts.length];
        bytes[0] = day / 256;
        bytes[1] = day % 256;
        bytes[2] = rule;
        bytes[3] = green;
        System.arraycopy(trusts, 0, bytes, 4, trusts.length);
        int c = 101;
        for (int k = 0; k + 1 < bytes.length; k++) {
            c = (3 * c + bytes[k]) % 251;
        }
        bytes[bytes.length - 1] = c;
        return bytes;
    }

    static Random dice(long seed) {
        return new Random(seed * 0x9E3779B97F4A7C15L);
    }
}
