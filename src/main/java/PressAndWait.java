import java.util.Arrays;

/**
 * A crossing told as a text, its days second by second, and what can be asked of them.
 * The document (DOC.md) numbers the promises; README.md says how the class is used.
 */
public final class PressAndWait {
    public static final int NONE = -1;
    public static final long NOTHING = -1000000000000000L;

    private static final int TAPE = 1600;
    private static final int KINDS = 6;
    private static final int WALKERS = 12;
    private static final int NAME = 6;
    private static final int SECONDS = 300;
    private static final int ARRIVALS = 200;
    private static final int CAR_SECONDS = 320;
    private static final int MOST_GAP = 20;
    private static final int MOST_PACE = 20;
    private static final int MOST_GREEN = 60;
    private static final int MOST_BEST_GREEN = 40;
    private static final int MOST_SEEN_GREEN = 20;
    private static final int RULES = 3;
    private static final int MOST_TRUST = 9;
    private static final int MOST_DAY = 999;
    private static final int MOST_DAYS = 30;
    private static final int MOST_ACTS = 20;
    private static final int MOST_ROWS = 16;
    private static final int ROW = 3;
    private static final int NOT_AT_ALL = 65535;
    private static final int DAY_FACTS = 6;

    private static final int BY_CLOCK = 0;
    private static final int BY_BUTTON = 1;

    private static final int REFUSED_TAPE = 0;
    private static final int REFUSED_TEXT = 1;
    private static final int REFUSED_CHANGE = 2;
    private static final int REFUSED_DAYS = 3;
    private static final int REFUSED_UNDO = 4;
    private static final int REFUSED_IMAGE = 5;
    private static final int REFUSALS = 6;

    // What a PART can tell, in the order of PART_WORDS; OF_KIND is no word, "kind PART" asks for it.
    private static final int SECOND = 0;
    private static final int DAY = 1;
    private static final int PHASE = 2;
    private static final int WAITED = 3;
    private static final int CALM = 4;
    private static final int PACE = 5;
    private static final int TRUSTS = 6;
    private static final int GAP = 7;
    private static final int REDS = 8;
    private static final int NUMBER = 9;
    private static final int WENT = 10;
    private static final int HARM = 11;
    private static final int OF_KIND = 12;
    private static final int FACTS = 13;

    // Code: 0 and above is that number, -1 - f is fact f, below that the operations.
    private static final int ADD = -20;
    private static final int SUBTRACT = -21;
    private static final int MULTIPLY = -22;
    private static final int DIVIDE = -23;
    private static final int LEAST_OF = -24;
    private static final int MOST_OF = -25;
    private static final int BELOW = -26;
    private static final int ABOVE = -27;
    private static final int EQUAL = -28;
    private static final int AND = -29;
    private static final int OR = -30;
    private static final int NOT = -31;
    private static final int IS_KIND = -32;

    // Where in a plan's spans the code of each lies: from, and one behind its end.
    private static final int CAR = 0;
    private static final int RED = 2;
    private static final int LEARNS = 4;
    private static final int SPANS = 6;

    private static final int FIRST = 0;
    private static final int LAST = 1;
    private static final int OFTEN = 2;
    private static final int TOTAL = 3;
    private static final int MOST = 4;

    private final int[] tape = new int[TAPE];
    private int tapeSize = 0;
    private Plan plan = new Plan();
    private Plan spare = new Plan();
    private final State now = new State();
    private final History history = new History();
    private final Machine machine = new Machine();
    private final Reader reader = new Reader(tape, spare);
    private final Street street = new Street(machine, plan);
    private final Choice choice = new Choice(street);
    private final Ahead ahead = new Ahead(street);
    private final Watch watch = new Watch(street);
    private final int[] octets = new int[KINDS + 5];
    private int octetCount = 0;
    private final int[] refusals = new int[REFUSALS];
    private long drawn = 1;

    public PressAndWait() {
    }

    public int feed(int a, int b, int c, int d, int e) {
        if (tapeSize + 20 > TAPE) {
            return refuse(REFUSED_TAPE);
        }
        putBytes(a);
        putBytes(b);
        putBytes(c);
        putBytes(d);
        putBytes(e);
        return tapeSize;
    }

    public boolean end(int n) {
        if (n < 0 || n > tapeSize) {
            return deny(REFUSED_TAPE);
        }
        tapeSize = n;
        return true;
    }

    public int crossing() {
        Plan draft = spare;
        reader.readCrossing(draft, takeTape());
        if (reader.fault != 0) {
            return refuse(REFUSED_TEXT);
        }
        spare = plan;
        plan = draft;
        now.begin(plan);
        history.clear();
        watch.clear();
        street.take(plan);
        changed();
        return plan.statements;
    }

    public int fault(int what) {
        switch (what) {
            case 0: return reader.fault;
            case 1: return reader.place;
            default: return NONE;
        }
    }

    public int has(int what) {
        switch (what) {
            case 0: return plan.cycle;
            case 1: return plan.kinds;
            case 2: return plan.walkers;
            case 3: return now.day;
            case 4: return now.rule;
            case 5: return now.green;
            case 6: return watch.rows;
            case 7: return history.count;
            default: return NONE;
        }
    }

    public int letter(int kind, int which, int k) {
        boolean there = kind == 0 && isKind(which) || kind == 1 && isWalker(which);
        if (!there || k < 0 || k >= NAME) {
            return NONE;
        }
        int slot = kind == 0 ? which : KINDS + which;
        return plan.names[slot * NAME + k];
    }

    public int kind(int kind, int what) {
        if (!isKind(kind)) {
            return NONE;
        }
        switch (what) {
            case 0: return plan.calm[kind];
            case 1: return plan.pace[kind];
            case 2: return now.trusts[kind];
            case 3: return plan.walkersOf(kind);
            default: return NONE;
        }
    }

    public int walker(int walker, int what) {
        if (!isWalker(walker)) {
            return NONE;
        }
        layToday();
        switch (what) {
            case 0: return plan.kindOf[walker];
            case 1: return plan.comesAt[walker];
            case 2: return street.leaves[walker];
            case 3: return street.waitedBy(walker);
            case 4: return bit(street.went, walker);
            case 5: return bit(street.harmed, walker);
            case 6: return bit(street.pressed, walker);
            default: return NONE;
        }
    }

    public int light(int second) {
        if (!stands() || second < 0 || second >= SECONDS) {
            return NONE;
        }
        layToday();
        return street.left[second] > 0 ? 1 : 0;
    }

    public int car(int second) {
        if (!stands() || second < 0 || second >= CAR_SECONDS) {
            return NONE;
        }
        layToday();
        return street.cars[second];
    }

    public int day(int what) {
        if (!stands()) {
            return NONE;
        }
        layToday();
        return street.told(what);
    }

    public int best(int harmed, int what) {
        if (!stands() || harmed < 0 || harmed > WALKERS || what < 0 || what > 2) {
            return NONE;
        }
        return choice.bestOf(now, harmed, what);
    }

    public int least() {
        return stands() ? choice.leastGreen(now) : NONE;
    }

    public int hold() {
        if (!stands()) {
            return NONE;
        }
        layToday();
        return choice.holders();
    }

    public int later(int n, int what) {
        if (!stands() || n < 0 || n >= MOST_DAYS || now.day + n > MOST_DAY) {
            return NONE;
        }
        if (what < 0 || what >= DAY_FACTS) {
            return NONE;
        }
        ahead.goTo(now, n + 1);
        return ahead.told[n * DAY_FACTS + what];
    }

    public int doubts(int kind) {
        if (!isKind(kind)) {
            return NONE;
        }
        if (now.trusts[kind] == 0) {
            return 0;
        }
        // DAY 999 is one of those ahead, so there can be a doubt behind it.
        int most = Math.min(MOST_DAYS, MOST_DAY - now.day + 1);
        for (int n = 1; n <= most; n++) {
            ahead.goTo(now, n);
            if (ahead.trusts[(n - 1) * KINDS + kind] == 0) {
                return n;
            }
        }
        return NONE;
    }

    public int see() {
        int size = takeTape();
        if (!watch.accepts(tape, size, plan.walkers)) {
            return refuse(REFUSED_TEXT);
        }
        return watch.keep(tape, size);
    }

    public int fits(int what) {
        if (!stands()) {
            return NONE;
        }
        watch.compare(now);
        switch (what) {
            case 0: return watch.found;
            case 1: return watch.foundRules;
            case 2: return watch.foundGreen;
            default: return NONE;
        }
    }

    public int watched(int what) {
        if (!stands()) {
            return NONE;
        }
        watch.compare(now);
        switch (what) {
            case 0: return watch.chosen;
            case 1: return watch.chosenLeft;
            default: return NONE;
        }
    }

    public boolean rule(int rule) {
        if (!stands() || rule < 0 || rule >= RULES || rule == now.rule) {
            return deny(REFUSED_CHANGE);
        }
        act();
        now.rule = rule;
        return true;
    }

    public boolean green(int green) {
        if (!plan.allowsGreen(green) || green == now.green) {
            return deny(REFUSED_CHANGE);
        }
        act();
        now.green = green;
        return true;
    }

    public boolean trust(int kind, int trusts) {
        if (!isKind(kind) || trusts < 0 || trusts > MOST_TRUST || trusts == now.trusts[kind]) {
            return deny(REFUSED_CHANGE);
        }
        act();
        now.trusts[kind] = trusts;
        return true;
    }

    public int days(int n) {
        if (!canLive(n)) {
            return refuse(REFUSED_DAYS);
        }
        act();
        int waited = 0;
        for (int k = 0; k < n; k++) {
            layToday();
            waited += street.told(0);
            street.pass(now);
        }
        return waited;
    }

    public int chance(int n) {
        if (!canLive(n)) {
            return refuse(REFUSED_DAYS);
        }
        act();
        int missing = 0;
        for (int k = 0; k < n; k++) {
            int absent = drawAbsent();
            missing += Integer.bitCount(absent);
            street.lay(now, now.rule, now.green, absent);
            street.pass(now);
        }
        return missing;
    }

    public boolean undo() {
        if (!history.giveBack(now)) {
            return deny(REFUSED_UNDO);
        }
        changed();
        return true;
    }

    public boolean seed(int seed) {
        if (seed < 0) {
            return deny(REFUSED_IMAGE);
        }
        drawn = seed;
        return true;
    }

    public long ask() {
        int size = takeTape();
        if (!stands()) {
            return NOTHING;
        }
        int question = reader.readQuestion(spare, size);
        if (reader.fault != 0) {
            return NOTHING;
        }
        layToday();
        return answer(question);
    }

    public int image() {
        octets[0] = now.day >> 8;
        octets[1] = now.day & 255;
        octets[2] = now.rule;
        octets[3] = now.green;
        for (int k = 0; k < plan.kinds; k++) {
            octets[4 + k] = now.trusts[k];
        }
        int last = 4 + plan.kinds;
        octets[last] = check(octets, last);
        octetCount = last + 1;
        return octetCount;
    }

    public int octet(int k) {
        return k >= 0 && k < octetCount ? octets[k] : NONE;
    }

    public boolean on() {
        int size = takeTape();
        if (!isImage(size)) {
            return deny(REFUSED_IMAGE);
        }
        now.day = tape[0] * 256 + tape[1];
        now.rule = tape[2];
        now.green = tape[3];
        System.arraycopy(tape, 4, now.trusts, 0, plan.kinds);
        history.clear();
        changed();
        return true;
    }

    public int status(int what) {
        return what >= 0 && what < REFUSALS ? refusals[what] : NONE;
    }

    private static int bit(int bits, int k) {
        return bits >> k & 1;
    }

    /** The last byte of an image, by the bytes ahead of it. */
    private static int check(int[] bytes, int count) {
        int c = 101;
        for (int k = 0; k < count; k++) {
            c = (3 * c + bytes[k]) % 251;
        }
        return c;
    }

    private int refuse(int which) {
        refusals[which]++;
        return NONE;
    }

    private boolean deny(int which) {
        refusals[which]++;
        return false;
    }

    private boolean stands() {
        return plan.cycle > 0;
    }

    private boolean isKind(int kind) {
        return kind >= 0 && kind < plan.kinds;
    }

    private boolean isWalker(int walker) {
        return walker >= 0 && walker < plan.walkers;
    }

    /** The day after the last of n days must be one, too: 999 at most. */
    private boolean canLive(int n) {
        return stands() && n >= 1 && n <= MOST_DAYS && now.day + n <= MOST_DAY;
    }

    private void putBytes(int number) {
        for (int shift = 24; shift >= 0; shift -= 8) {
            tape[tapeSize] = number >> shift & 255;
            tapeSize++;
        }
    }

    /** The bytes stay readable until the next feed(), for the call that takes them. */
    private int takeTape() {
        int size = tapeSize;
        tapeSize = 0;
        return size;
    }

    private void act() {
        history.keep(now);
        changed();
    }

    private void changed() {
        choice.forget();
        ahead.forget();
        watch.forget();
    }

    private int drawAbsent() {
        int absent = 0;
        for (int w = 0; w < plan.walkers; w++) {
            drawn = (1103515245L * drawn + 12345L) & 0x7FFFFFFFL;
            if (drawn / 64 % 100 < plan.away) {
                absent |= 1 << w;
            }
        }
        return absent;
    }

    private boolean isImage(int size) {
        if (!stands() || size != plan.kinds + 5) {
            return false;
        }
        for (int k = 0; k < plan.kinds; k++) {
            if (tape[4 + k] > MOST_TRUST) {
                return false;
            }
        }
        return tape[0] * 256 + tape[1] <= MOST_DAY
            && tape[2] < RULES
            && plan.allowsGreen(tape[3])
            && tape[size - 1] == check(tape, size - 1);
    }

    private void layToday() {
        street.lay(now, now.rule, now.green, 0);
    }

    private long answer(int question) {
        long first = NONE;
        long last = NONE;
        long total = 0;
        long most = 0;
        long fewest = 0;
        for (int w = 0; w < plan.walkers; w++) {
            street.describeWhole(w);
            int value = machine.value(spare.code, 0, spare.size);
            total += value;
            most = w == 0 || value > most ? value : most;
            fewest = w == 0 || value < fewest ? value : fewest;
            // For a TEST the value is 1 or 0, so that its total is how often it holds.
            first = first == NONE && value != 0 ? w : first;
            last = value != 0 ? w : last;
        }
        switch (question) {
            case FIRST: return first;
            case LAST: return last;
            case OFTEN: return total;
            case TOTAL: return total;
            case MOST: return most;
            default: return fewest;
        }
    }

    /** What the text of a crossing tells. Without a crossing its cycle is 0. */
    private static final class Plan {
        int cycle;
        int green;
        int rule;
        int least;
        int away;
        int statements;
        int kinds;
        final int[] calm = new int[KINDS];
        final int[] pace = new int[KINDS];
        final int[] trusts = new int[KINDS];
        int walkers;
        final int[] kindOf = new int[WALKERS];
        final int[] comesAt = new int[WALKERS];
        final int[] comers = new int[ARRIVALS];
        final int[] names = new int[(KINDS + WALKERS) * NAME];
        final int[] code = new int[TAPE];
        int size;
        final int[] spans = new int[SPANS];

        void clear() {
            cycle = 0;
            away = 0;
            statements = 0;
            kinds = 0;
            walkers = 0;
            size = 0;
            Arrays.fill(comers, 0);
            Arrays.fill(spans, 0);
        }

        int walkersOf(int kind) {
            int bits = 0;
            for (int w = 0; w < walkers; w++) {
                if (kindOf[w] == kind) {
                    bits |= 1 << w;
                }
            }
            return bits;
        }

        int comersIn(int second) {
            return second >= 0 && second < ARRIVALS ? comers[second] : 0;
        }

        int everyone() {
            return (1 << walkers) - 1;
        }

        boolean allowsGreen(int asked) {
            return asked >= 1 && asked <= MOST_GREEN && asked < cycle;
        }

        boolean uses(int span, int op) {
            for (int k = spans[span]; k < spans[span + 1]; k++) {
                if (code[k] == op) {
                    return true;
                }
            }
            return false;
        }
    }

    /** What acts change. */
    private static final class State {
        int day = 0;
        int rule = 0;
        int green = 0;
        final int[] trusts = new int[KINDS];

        void begin(Plan plan) {
            day = 0;
            rule = plan.rule;
            green = plan.green;
            System.arraycopy(plan.trusts, 0, trusts, 0, KINDS);
        }

        void copy(State other) {
            day = other.day;
            rule = other.rule;
            green = other.green;
            System.arraycopy(other.trusts, 0, trusts, 0, KINDS);
        }
    }

    /** The states ahead of the last acts, in a ring: the oldest goes when it is full. */
    private static final class History {
        private final State[] ring = new State[MOST_ACTS];
        private int next = 0;
        int count = 0;

        History() {
            for (int k = 0; k < MOST_ACTS; k++) {
                ring[k] = new State();
            }
        }

        void clear() {
            count = 0;
        }

        void keep(State state) {
            ring[next].copy(state);
            next = (next + 1) % MOST_ACTS;
            count = Math.min(count + 1, MOST_ACTS);
        }

        boolean giveBack(State state) {
            if (count == 0) {
                return false;
            }
            next = (next + MOST_ACTS - 1) % MOST_ACTS;
            count--;
            state.copy(ring[next]);
            return true;
        }
    }

    /** Works out the code of a TEST or a SUM from the facts that are set. */
    private static final class Machine {
        private static final int DEEPEST = 64;
        private static final int LIMIT = 1000000;

        final int[] facts = new int[FACTS];
        private final int[] stack = new int[DEEPEST];

        /** 0 without code: so a TEST that is not told never holds, and a SUM adds nothing. */
        int value(int[] code, int from, int to) {
            int top = 0;
            for (int k = from; k < to && k < code.length; k++) {
                int op = code[k];
                if (op >= -FACTS) {
                    if (top < DEEPEST) {
                        stack[top] = op >= 0 ? op : facts[-1 - op];
                        top++;
                    }
                } else if (top > 0 && op == NOT) {
                    stack[top - 1] = 1 - stack[top - 1];
                } else if (top > 0 && op == IS_KIND) {
                    stack[top - 1] = stack[top - 1] == facts[OF_KIND] ? 1 : 0;
                } else if (top > 1) {
                    top--;
                    stack[top - 1] = operate(op, stack[top - 1], stack[top]);
                }
            }
            return top > 0 ? stack[top - 1] : 0;
        }

        private static int operate(int op, int a, int b) {
            switch (op) {
                case ADD: return within(a + (long) b);
                case SUBTRACT: return within(a - (long) b);
                case MULTIPLY: return within(a * (long) b);
                case DIVIDE: return b == 0 ? 0 : Math.floorDiv(a, b);
                case LEAST_OF: return a < b ? a : b;
                case MOST_OF: return a > b ? a : b;
                case BELOW: return a < b ? 1 : 0;
                case ABOVE: return a > b ? 1 : 0;
                case EQUAL: return a == b ? 1 : 0;
                case AND: return a & b;
                default: return a | b;
            }
        }

        private static int within(long value) {
            if (value > LIMIT) {
                return LIMIT;
            }
            return value < -LIMIT ? -LIMIT : (int) value;
        }
    }

    /**
     * Reads a text word by word from left to right and keeps its first fault. With a fault it goes
     * to the text's end, where nothing more can be read, so that what is under way ends soon.
     */
    private static final class Reader {
        private static final int WRONG_TEXT = 1;
        private static final int WRONG_NUMBER = 2;
        private static final int WRONG_NAME = 3;
        private static final int TOO_DEEP = 4;
        private static final int TOO_MANY = 5;
        private static final int MOST_STATEMENTS = 80;
        private static final int MOST_DIGITS = 4;
        private static final int MOST_NUMBER = 9999;
        private static final int MOST_OPEN = 6;
        private static final String OWN_WORDS = "cycle green rule least kind calm pace trusts comes is at car red learns away second day phase waited gap reds number went harm or and not all min max";
        private static final String STATEMENTS = "kind comes car red learns away";
        private static final String QUESTIONS = "first last often total most least";
        private static final String PART_WORDS = "second day phase waited calm pace trusts gap reds number went harm";

        // Which of PART_WORDS are allowed, as bits.
        private static final int ANYWHERE = 1 << SECOND | 1 << DAY;
        private static final int OF_WALKER = ANYWHERE | 1 << WAITED | 1 << CALM | 1 << PACE | 1 << TRUSTS;
        private static final int IN_CAR = ANYWHERE | 1 << PHASE;
        private static final int IN_RED = OF_WALKER | 1 << GAP | 1 << REDS;
        private static final int IN_QUESTION = OF_WALKER | 1 << NUMBER | 1 << WENT | 1 << HARM;

        // What stands at a place of the text.
        private static final int END = 0;
        private static final int WORD = 1;
        private static final int DIGITS = 2;
        private static final int SIGN = 3;
        private static final int GLUED = 4;

        private final int[] text;
        private int length = 0;
        private int at = 0;
        private int behind = 0;
        private int sort = END;
        private int allowed = 0;
        private Plan plan;
        int fault = 0;
        int place = NONE;

        Reader(int[] text, Plan plan) {
            this.text = text;
            this.plan = plan;
        }

        /** A text without a STATEMENT goes wrong where its first word is asked: at its length. */
        void readCrossing(Plan draft, int size) {
            begin(draft, size);
            firstStatement();
            need(';');
            int count = 1;
            while (sort != END && count < MOST_STATEMENTS) {
                switch (wordIn(STATEMENTS)) {
                    case 0: kindStatement(); break;
                    case 1: comesStatement(); break;
                    case 2: codeStatement(CAR, IN_CAR); break;
                    case 3: codeStatement(RED, IN_RED); break;
                    case 4: codeStatement(LEARNS, OF_WALKER); break;
                    case 5: draft.away = numberBehind("away", 0, 100); break;
                    default: fail(WRONG_TEXT, at);
                }
                need(';');
                count++;
            }
            if (sort != END) {
                fail(TOO_MANY, at);
            }
            draft.statements = count;
        }

        /** Which of QUESTIONS it is; its code is written into the draft. */
        int readQuestion(Plan draft, int size) {
            begin(draft, size);
            allowed = IN_QUESTION;
            int asked = wordIn(QUESTIONS);
            if (asked == NONE) {
                fail(WRONG_TEXT, at);
            } else {
                moveTo(behind);
                if (asked <= OFTEN) {
                    test(0);
                } else {
                    sum(0);
                }
            }
            if (sort != END) {
                fail(WRONG_TEXT, at);
            }
            return asked;
        }

        private void begin(Plan draft, int size) {
            draft.clear();
            plan = draft;
            length = Math.min(size, text.length);
            fault = 0;
            place = NONE;
            moveTo(0);
        }

        private void fail(int what, int where) {
            if (fault == 0) {
                fault = what;
                place = where;
            }
            at = length;
            behind = length;
            sort = END;
        }

        private void firstStatement() {
            plan.cycle = numberBehind("cycle", 10, 120);
            plan.green = numberBehind("green", 1, Math.min(MOST_GREEN, plan.cycle - 1));
            plan.rule = numberBehind("rule", 0, RULES - 1);
            plan.least = numberBehind("least", 0, 99);
        }

        private void kindStatement() {
            int kind = plan.kinds;
            if (kind >= KINDS) {
                fail(TOO_MANY, at);
                return;
            }
            moveTo(behind);
            newName(kind);
            plan.calm[kind] = numberBehind("calm", 0, 99);
            plan.pace[kind] = numberBehind("pace", 1, MOST_PACE);
            plan.trusts[kind] = numberBehind("trusts", 0, MOST_TRUST);
            plan.kinds++;
        }

        private void comesStatement() {
            int walker = plan.walkers;
            if (walker >= WALKERS) {
                fail(TOO_MANY, at);
                return;
            }
            moveTo(behind);
            newName(KINDS + walker);
            needWord("is");
            plan.kindOf[walker] = knownKind();
            int second = numberBehind("at", 0, ARRIVALS - 1);
            plan.comesAt[walker] = second;
            plan.comers[second] |= 1 << walker;
            plan.walkers++;
        }

        private void codeStatement(int span, int words) {
            if (plan.spans[span + 1] > plan.spans[span]) {
                fail(TOO_MANY, at);
                return;
            }
            moveTo(behind);
            allowed = words;
            plan.spans[span] = plan.size;
            if (span == LEARNS) {
                sum(0);
            } else {
                test(0);
            }
            plan.spans[span + 1] = plan.size;
        }

        private int numberBehind(String word, int least, int most) {
            needWord(word);
            return number(least, most);
        }

        private void newName(int slot) {
            if (!isName()) {
                fail(WRONG_TEXT, wrongInName());
            } else if (slotOf(0, plan.kinds) != NONE || slotOf(KINDS, plan.walkers) != NONE) {
                fail(WRONG_NAME, at);
            } else {
                for (int k = 0; k < NAME; k++) {
                    plan.names[slot * NAME + k] = nameLetter(k);
                }
                moveTo(behind);
            }
        }

        /** 0 with a fault: it must be one that can be used on the way to the end. */
        private int knownKind() {
            if (!isName()) {
                fail(WRONG_TEXT, wrongInName());
                return 0;
            }
            int kind = slotOf(0, plan.kinds);
            if (kind == NONE) {
                fail(WRONG_NAME, at);
                return 0;
            }
            moveTo(behind);
            return kind;
        }

        private boolean isName() {
            return sort == WORD && behind - at <= NAME && wordIn(OWN_WORDS) == NONE;
        }

        /** A word that is too long goes wrong at its 7th letter, all else at its first byte. */
        private int wrongInName() {
            return sort == WORD && behind - at > NAME ? at + NAME : at;
        }

        private int nameLetter(int k) {
            return at + k < behind ? text[at + k] - 'a' + 1 : 0;
        }

        /** Where, among so many names from this one on, the one that stands here is. */
        private int slotOf(int from, int count) {
            for (int slot = from; slot < from + count; slot++) {
                int same = 0;
                while (same < NAME && plan.names[slot * NAME + same] == nameLetter(same)) {
                    same++;
                }
                if (same == NAME) {
                    return slot;
                }
            }
            return NONE;
        }

        // TEST, BOTH, FACT, SUM, PRODUCT, PART: "open" is how many of ( [ not kind are open; as
        // no more than MOST_OPEN can be, the calls go no deeper than that many times these six.

        private void test(int open) {
            both(open);
            for (int k = 0; k < TAPE && takeWord("or"); k++) {
                both(open);
                emit(OR);
            }
        }

        private void both(int open) {
            fact(open);
            for (int k = 0; k < TAPE && takeWord("and"); k++) {
                fact(open);
                emit(AND);
            }
        }

        private void fact(int open) {
            if (wordIn("not") != NONE) {
                if (enters(open)) {
                    fact(open + 1);
                    emit(NOT);
                }
            } else if (sees('[')) {
                if (enters(open)) {
                    test(open + 1);
                    need(']');
                }
            } else if (takeWord("all")) {
                emit(1);
            } else {
                sum(open);
                int op = signHere();
                moveTo(behind);
                sum(open);
                emit(op);
            }
        }

        private void sum(int open) {
            product(open);
            for (int k = 0; k < TAPE && (sees('+') || sees('-')); k++) {
                int op = sees('+') ? ADD : SUBTRACT;
                moveTo(behind);
                product(open);
                emit(op);
            }
        }

        private void product(int open) {
            part(open);
            for (int k = 0; k < TAPE && (sees('*') || sees('/')); k++) {
                int op = sees('*') ? MULTIPLY : DIVIDE;
                moveTo(behind);
                part(open);
                emit(op);
            }
        }

        private void part(int open) {
            if (sort == DIGITS) {
                emit(number(0, MOST_NUMBER));
            } else if (sees('(')) {
                if (enters(open)) {
                    sum(open + 1);
                    need(')');
                }
            } else if (takeWord("min")) {
                pair(open, LEAST_OF);
            } else if (takeWord("max")) {
                pair(open, MOST_OF);
            } else if (allowed == IN_QUESTION && wordIn("kind") != NONE) {
                if (enters(open)) {
                    part(open + 1);
                    emit(IS_KIND);
                }
            } else {
                partWord();
            }
        }

        private void pair(int open, int op) {
            if (!sees('(')) {
                fail(WRONG_TEXT, at);
            } else if (enters(open)) {
                sum(open + 1);
                need(',');
                sum(open + 1);
                need(')');
                emit(op);
            }
        }

        private void partWord() {
            int word = wordIn(PART_WORDS);
            if (word == NONE || (allowed >> word & 1) == 0) {
                fail(WRONG_TEXT, at);
            } else {
                moveTo(behind);
                emit(-1 - word);
            }
        }

        /** Goes behind what opens here, unless too many are open already. */
        private boolean enters(int open) {
            if (open >= MOST_OPEN) {
                fail(TOO_DEEP, at);
                return false;
            }
            moveTo(behind);
            return true;
        }

        private int signHere() {
            if (sees('<')) {
                return BELOW;
            }
            if (sees('>')) {
                return ABOVE;
            }
            if (!sees('=')) {
                fail(WRONG_TEXT, at);
            }
            return EQUAL;
        }

        private void emit(int op) {
            if (plan.size < plan.code.length) {
                plan.code[plan.size] = op;
                plan.size++;
            }
        }

        /** The least that can be, with a fault: it must be one that can be used on the way. */
        private int number(int least, int most) {
            if (sort != DIGITS) {
                fail(WRONG_TEXT, at);
                return least;
            }
            if (behind - at > MOST_DIGITS) {
                fail(WRONG_TEXT, at + MOST_DIGITS);
                return least;
            }
            int value = 0;
            for (int k = at; k < behind; k++) {
                value = value * 10 + text[k] - '0';
            }
            if (value < least || value > most) {
                fail(WRONG_NUMBER, at);
                return least;
            }
            moveTo(behind);
            return value;
        }

        private void needWord(String word) {
            if (wordIn(word) == NONE) {
                fail(WRONG_TEXT, at);
            } else {
                moveTo(behind);
            }
        }

        private boolean takeWord(String word) {
            boolean there = wordIn(word) != NONE;
            if (there) {
                moveTo(behind);
            }
            return there;
        }

        /** Which word of a list (blanks between them) the whole word here is; NONE for others. */
        private int wordIn(String list) {
            if (sort != WORD) {
                return NONE;
            }
            int word = 0;
            int next = at;
            boolean alike = true;
            for (int k = 0; k <= list.length(); k++) {
                if (k == list.length() || list.charAt(k) == ' ') {
                    if (alike && next == behind) {
                        return word;
                    }
                    word++;
                    next = at;
                    alike = true;
                } else {
                    alike = alike && next < behind && text[next] == list.charAt(k);
                    next++;
                }
            }
            return NONE;
        }

        private void need(char sign) {
            if (sees(sign)) {
                moveTo(behind);
            } else {
                fail(WRONG_TEXT, at);
            }
        }

        private boolean sees(char sign) {
            return sort == SIGN && text[at] == sign;
        }

        /** Goes on to what stands from there on, behind blanks. */
        private void moveTo(int from) {
            at = from;
            while (at < length && (text[at] == 10 || text[at] == ' ')) {
                at++;
            }
            sort = sortOf(at);
            behind = Math.min(at + 1, length);
            while (behind < length && sort != SIGN && sortOf(behind) == sort) {
                behind++;
            }
            // Words and numbers side by side need a blank: "cycle20" goes wrong at its 2.
            boolean afterBlank = at > from || at == 0 || sortOf(at - 1) == SIGN;
            if (!afterBlank && (sort == WORD || sort == DIGITS)) {
                sort = GLUED;
            }
        }

        private int sortOf(int k) {
            if (k < 0 || k >= length) {
                return END;
            }
            if (text[k] >= 'a' && text[k] <= 'z') {
                return WORD;
            }
            return text[k] >= '0' && text[k] <= '9' ? DIGITS : SIGN;
        }
    }

    /**
     * One DAY, laid out second by second. What has been worked out is kept for as long as it
     * holds: cars by the DAY, the TEST of red by DAY and beliefs, the rest by RULE and green too.
     */
    private static final class Street {
        private final Machine machine;
        private Plan plan;
        private int day = NONE;
        private final int[] trusts = new int[KINDS];
        private int rule = NONE;
        private int green = 0;
        private int absent = 0;
        private boolean asksReds = false;
        final int[] cars = new int[CAR_SECONDS];
        private final int[] gaps = new int[CAR_SECONDS];
        // For each walker and second two bits for each number of reds: known, and holds.
        private final int[] known = new int[WALKERS * SECONDS];
        // How many seconds the green lasts from each second on, that one too; 0 by red.
        final int[] left = new int[SECONDS];
        final int[] leaves = new int[WALKERS];
        int pressed = 0;
        int crossed = 0;
        int went = 0;
        int harmed = 0;

        Street(Machine machine, Plan plan) {
            this.machine = machine;
            this.plan = plan;
        }

        void take(Plan other) {
            plan = other;
            asksReds = other.uses(RED, -1 - REDS);
            day = NONE;
        }

        void lay(State state, int byRule, int byGreen, int without) {
            if (plan.cycle <= 0) {
                return;
            }
            prepare(state);
            if (rule == byRule && green == byGreen && absent == without) {
                return;
            }
            rule = byRule;
            green = byGreen;
            absent = without;
            shine();
            walk();
        }

        private void prepare(State state) {
            boolean sameDay = day == state.day;
            boolean same = sameDay;
            for (int k = 0; k < plan.kinds; k++) {
                same = same && trusts[k] == state.trusts[k];
                trusts[k] = state.trusts[k];
            }
            if (!sameDay) {
                day = state.day;
                drive();
            }
            if (!same) {
                Arrays.fill(known, 0);
                rule = NONE;
            }
        }

        private void drive() {
            int[] facts = machine.facts;
            facts[DAY] = day;
            int gap = 0;
            for (int s = CAR_SECONDS - 1; s >= 0; s--) {
                facts[SECOND] = s;
                facts[PHASE] = s % plan.cycle;
                cars[s] = machine.value(plan.code, plan.spans[CAR], plan.spans[CAR + 1]);
                gap = cars[s] == 1 ? 0 : Math.min(gap + 1, MOST_GAP);
                gaps[s] = gap;
            }
        }

        /** The light hangs on who comes and presses, never on who crosses or goes. */
        private void shine() {
            int willing = willing();
            pressed = 0;
            boolean open = false;
            boolean lit = false;
            int lastGreen = -1;
            for (int s = 0; s < SECONDS; s++) {
                int before = s > 0 ? left[s - 1] : 0;
                int presses = before == 0 ? plan.comersIn(s) & willing : 0;
                pressed |= presses;
                open = open || presses != 0;
                int phase = s % plan.cycle;
                if (rule == BY_BUTTON) {
                    lit = before <= 1 && open && s - lastGreen - 1 >= plan.least;
                    open = open && !lit;
                    left[s] = lit ? green : Math.max(before - 1, 0);
                    lastGreen = left[s] > 0 ? s : lastGreen;
                } else {
                    if (phase == 0) {
                        lit = rule == BY_CLOCK || open;
                        open = false;
                    }
                    left[s] = lit ? Math.max(green - phase, 0) : 0;
                }
            }
        }

        private int willing() {
            int bits = 0;
            for (int w = 0; w < plan.walkers; w++) {
                if (trusts[plan.kindOf[w]] > 0) {
                    bits |= 1 << w;
                }
            }
            return bits & ~absent;
        }

        private void walk() {
            Arrays.fill(leaves, NONE);
            crossed = 0;
            went = 0;
            harmed = 0;
            int reds = 0;
            int there = 0;
            int away = plan.everyone() & ~absent;
            for (int s = 0; s < SECONDS && (there | away) != 0; s++) {
                int come = plan.comersIn(s) & away;
                away &= ~come;
                there |= come;
                for (int w = 0; w < plan.walkers; w++) {
                    int walker = 1 << w;
                    if ((there & walker) == 0) {
                        continue;
                    }
                    int pace = plan.pace[plan.kindOf[w]];
                    if (left[s] >= pace) {
                        crossed |= walker;
                    } else if (goes(w, s, reds)) {
                        went |= walker;
                        harmed |= gaps[s] < pace ? walker : 0;
                        reds++;
                    } else {
                        continue;
                    }
                    leaves[w] = s;
                    there &= ~walker;
                }
            }
        }

        /** Whether the TEST of red holds for one who is there. */
        private boolean goes(int w, int second, int reds) {
            int at = w * SECONDS + second;
            int shift = asksReds ? 2 * reds : 0;
            if ((known[at] >> shift & 1) == 0) {
                int[] facts = machine.facts;
                facts[GAP] = gaps[second];
                facts[REDS] = reds;
                describe(w, second, second - plan.comesAt[w], trusts[plan.kindOf[w]]);
                int holds = machine.value(plan.code, plan.spans[RED], plan.spans[RED + 1]);
                known[at] |= (1 | holds << 1) << shift;
            }
            return (known[at] >> shift & 2) != 0;
        }

        private void describe(int w, int second, int waited, int trusting) {
            int kind = plan.kindOf[w];
            int[] facts = machine.facts;
            facts[SECOND] = second;
            facts[DAY] = day;
            facts[WAITED] = waited;
            facts[CALM] = plan.calm[kind];
            facts[PACE] = plan.pace[kind];
            facts[TRUSTS] = trusting;
        }

        /** For a QUESTION: all of a walker on the DAY that is laid out. */
        void describeWhole(int w) {
            int kind = plan.kindOf[w];
            int[] facts = machine.facts;
            describe(w, plan.comesAt[w], waitedBy(w), trusts[kind]);
            facts[NUMBER] = w;
            facts[WENT] = went >> w & 1;
            facts[HARM] = harmed >> w & 1;
            facts[OF_KIND] = kind;
        }

        int waitedBy(int w) {
            return (leaves[w] == NONE ? SECONDS : leaves[w]) - plan.comesAt[w];
        }

        /** Behind the DAY that is laid out: who came learns, and the DAY is one more. */
        void pass(State state) {
            for (int w = 0; w < plan.walkers; w++) {
                if ((absent >> w & 1) == 0) {
                    int kind = plan.kindOf[w];
                    describe(w, plan.comesAt[w], waitedBy(w), state.trusts[kind]);
                    int more = machine.value(plan.code, plan.spans[LEARNS], plan.spans[LEARNS + 1]);
                    int trusting = state.trusts[kind] + more;
                    state.trusts[kind] = Math.max(0, Math.min(trusting, MOST_TRUST));
                }
            }
            state.day++;
        }

        int told(int what) {
            switch (what) {
                case 0: return waitedByAll();
                case 1: return Integer.bitCount(went);
                case 2: return Integer.bitCount(harmed);
                case 3: return Integer.bitCount(plan.everyone() & ~absent & ~crossed & ~went);
                case 4: return greensForNobody();
                case 5: return Integer.bitCount(pressed);
                default: return NONE;
            }
        }

        private int waitedByAll() {
            int waited = 0;
            for (int w = 0; w < plan.walkers; w++) {
                if ((absent >> w & 1) == 0) {
                    waited += waitedBy(w);
                }
            }
            return waited;
        }

        private int greensForNobody() {
            int greens = 0;
            boolean served = false;
            for (int s = 0; s < SECONDS; s++) {
                boolean starts = left[s] > 0 && (s == 0 || left[s - 1] == 0);
                if (starts) {
                    greens++;
                    served = false;
                }
                if (left[s] > 0 && !served && someoneCrosses(s)) {
                    greens--;
                    served = true;
                }
            }
            return greens;
        }

        private boolean someoneCrosses(int second) {
            for (int w = 0; w < plan.walkers; w++) {
                if (leaves[w] == second && (crossed >> w & 1) == 1) {
                    return true;
                }
            }
            return false;
        }

        boolean allCross() {
            return crossed == plan.everyone();
        }

        /** The greens up to a bound that can be: those below the cycle. */
        int greensUpTo(int bound) {
            return Math.min(bound, plan.cycle - 1);
        }

        int walkers() {
            return plan.walkers;
        }

        /** Who goes on the DAY that is laid out, if none has gone ahead of him. */
        int goersByThemselves() {
            int bits = 0;
            for (int w = 0; w < plan.walkers; w++) {
                int pace = plan.pace[plan.kindOf[w]];
                for (int s = plan.comesAt[w]; s < SECONDS && left[s] < pace; s++) {
                    if (goes(w, s, 0)) {
                        bits |= 1 << w;
                        break;
                    }
                }
            }
            return bits;
        }
    }

    /** BEST, LEAST and HOLD. */
    private static final class Choice {
        private static final int MOST_HELD = 3;
        private static final int COLUMNS = 3;

        private final Street street;
        // For each number of harmed the RULE, the green, what is waited; NONE where there is none.
        private final int[] table = new int[(WALKERS + 1) * COLUMNS];
        private boolean tableKnown = false;

        Choice(Street street) {
            this.street = street;
        }

        void forget() {
            tableKnown = false;
        }

        int bestOf(State now, int harmed, int what) {
            if (!tableKnown) {
                Arrays.fill(table, NONE);
                int most = street.greensUpTo(MOST_BEST_GREEN);
                for (int green = 1; green <= most; green++) {
                    for (int rule = 0; rule < RULES; rule++) {
                        street.lay(now, rule, green, 0);
                        enter(rule, green);
                    }
                }
                tableKnown = true;
            }
            return table[harmed * COLUMNS + what];
        }

        /** Greens come from the least on, then RULES: so only what is waited less goes ahead. */
        private void enter(int rule, int green) {
            int waited = street.told(0);
            for (int harmed = street.told(2); harmed <= WALKERS; harmed++) {
                int row = harmed * COLUMNS;
                if (table[row] == NONE || waited < table[row + 2]) {
                    table[row] = rule;
                    table[row + 1] = green;
                    table[row + 2] = waited;
                }
            }
        }

        int leastGreen(State now) {
            int most = street.greensUpTo(MOST_GREEN);
            for (int green = 1; green <= most; green++) {
                street.lay(now, now.rule, green, 0);
                if (street.allCross()) {
                    return green;
                }
            }
            return NONE;
        }

        /**
         * Walkers meet in nothing but how many have gone at red. So none goes just when all are
         * held who go with none gone ahead of them: these are the one least set.
         */
        int holders() {
            int bits = street.goersByThemselves();
            return Integer.bitCount(bits) <= MOST_HELD ? bits : NONE;
        }
    }

    /** The DAYS AHEAD, worked out as far as they have been asked for. */
    private static final class Ahead {
        private final Street street;
        private final State state = new State();
        // For each DAY what day() tells of it, and how each KIND trusts behind it.
        final int[] told = new int[MOST_DAYS * DAY_FACTS];
        final int[] trusts = new int[MOST_DAYS * KINDS];
        private int known = 0;

        Ahead(Street street) {
            this.street = street;
        }

        void forget() {
            known = 0;
        }

        /** So many at the least are known behind this; 30 at most are asked for. */
        void goTo(State now, int count) {
            if (known == 0) {
                state.copy(now);
            }
            for (; known < count && known < MOST_DAYS; known++) {
                street.lay(state, state.rule, state.green, 0);
                for (int what = 0; what < DAY_FACTS; what++) {
                    told[known * DAY_FACTS + what] = street.told(what);
                }
                street.pass(state);
                System.arraycopy(state.trusts, 0, trusts, known * KINDS, KINDS);
            }
        }
    }

    /** What is SEEN, the RULES and greens that fit it, whom to watch. */
    private static final class Watch {
        private final Street street;
        private final int[] seenWalker = new int[MOST_ROWS];
        private final int[] seenSecond = new int[MOST_ROWS];
        int rows = 0;
        private boolean compared = false;
        // For each RULE and green that fits, in which second each walker leaves.
        private final int[] seconds = new int[RULES * MOST_SEEN_GREEN * WALKERS];
        int found = 0;
        int foundRules = 0;
        int foundGreen = NONE;
        int chosen = NONE;
        int chosenLeft = NONE;

        Watch(Street street) {
            this.street = street;
        }

        void clear() {
            rows = 0;
        }

        void forget() {
            compared = false;
        }

        boolean accepts(int[] bytes, int size, int walkers) {
            if (size < ROW || size > MOST_ROWS * ROW || size % ROW != 0) {
                return false;
            }
            for (int k = 0; k < size; k += ROW) {
                int second = bytes[k + 1] * 256 + bytes[k + 2];
                if (bytes[k] >= walkers || second >= SECONDS && second != NOT_AT_ALL) {
                    return false;
                }
            }
            return true;
        }

        int keep(int[] bytes, int size) {
            rows = size / ROW;
            for (int k = 0; k < rows; k++) {
                int second = bytes[k * ROW + 1] * 256 + bytes[k * ROW + 2];
                seenWalker[k] = bytes[k * ROW];
                seenSecond[k] = second == NOT_AT_ALL ? NONE : second;
            }
            compared = false;
            return rows;
        }

        void compare(State now) {
            if (compared) {
                return;
            }
            compared = true;
            found = 0;
            foundRules = 0;
            foundGreen = NONE;
            int most = street.greensUpTo(MOST_SEEN_GREEN);
            for (int green = 1; green <= most; green++) {
                for (int rule = 0; rule < RULES; rule++) {
                    street.lay(now, rule, green, 0);
                    if (isSo()) {
                        System.arraycopy(street.leaves, 0, seconds, found * WALKERS, WALKERS);
                        found++;
                        foundRules |= 1 << rule;
                        foundGreen = foundGreen == NONE ? green : foundGreen;
                    }
                }
            }
            choose();
        }

        private boolean isSo() {
            for (int k = 0; k < rows; k++) {
                if (street.leaves[seenWalker[k]] != seenSecond[k]) {
                    return false;
                }
            }
            return true;
        }

        private void choose() {
            chosen = NONE;
            chosenLeft = NONE;
            int walkers = found > 0 ? street.walkers() : 0;
            for (int w = 0; w < walkers; w++) {
                int most = mostLeft(w);
                if (chosen == NONE || most < chosenLeft) {
                    chosen = w;
                    chosenLeft = most;
                }
            }
        }

        private int mostLeft(int w) {
            int most = 0;
            for (int k = 0; k < found; k++) {
                int alike = 0;
                for (int other = 0; other < found; other++) {
                    if (seconds[other * WALKERS + w] == seconds[k * WALKERS + w]) {
                        alike++;
                    }
                }
                most = Math.max(most, alike);
            }
            return most;
        }
    }
}
