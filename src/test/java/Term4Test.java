/** Term IV, sentence by sentence: questions of all walkers, their FAULTS, and images. */
public final class Term4Test {
    private static final Tester t = new Tester("Term4Test");
    /** Twelve walkers of six KINDS: w is of KIND w / 2 and comes at 10 w; calm is 10 times the KIND's number. */
    private static final String FULL = full();

    public static void main(String[] args) {
        firstAndLast();
        often();
        total();
        mostAndLeast();
        whichParts();
        whatTheyAre();
        wrongByte();
        tooDeep();
        imageBytes();
        imageCheck();
        t.covers("Term IV");
        t.finish();
    }

    private static String full() {
        StringBuilder text = new StringBuilder(Texts.first(120, 5, 1, 0));
        for (int k = 0; k < 6; k++) {
            text.append(Texts.kind("k" + (char) ('a' + k), 10 * k, 1 + k, k));
        }
        for (int w = 0; w < 12; w++) {
            text.append("comes w").append((char) ('a' + w)).append(" is k").append((char) ('a' + w / 2)).append(" at ")
                .append(10 * w).append(";");
        }
        return text.toString();
    }

    private static void is(PressAndWait x, String question, long want) {
        t.due(question, Tester.ask(x, question), want);
        t.due("fault(0) of " + question, x.fault(0), 0);
        t.due("fault(1) of " + question, x.fault(1), -1);
    }

    private static void firstAndLast() {
        t.says("Term IV", "A QUESTION is a text, of all WALKERS on this DAY: first TEST, last TEST (the first, the last "
            + "WALKER for whom it holds),");
        PressAndWait x = Tester.made(FULL);
        is(x, "first all", 0);
        is(x, "last all", 11);
        is(x, "first not all", -1);
        is(x, "last not all", -1);
        for (int w = 0; w < 12; w++) {
            is(x, "first number=" + w, w);
            is(x, "last number=" + w, w);
            is(x, "first number>" + w, w == 11 ? -1 : w + 1);
            is(x, "last number<" + w, w - 1);
        }
        x = Tester.made(FULL);
        is(x, "first number=3 or number=8", 3);
        is(x, "last number=3 or number=8", 8);
        x = Tester.made(Texts.PLAIN);
        is(x, "first all", -1);
        is(x, "last all", -1);
    }

    private static void often() {
        t.says("Term IV", "often TEST (for how many),");
        PressAndWait x = Tester.made(FULL);
        is(x, "often all", 12);
        is(x, "often not all", 0);
        for (int w = 0; w <= 12; w++) {
            is(x, "often number<" + w, w);
        }
        is(Tester.made(Texts.PLAIN), "often all", 0);
    }

    private static void total() {
        t.says("Term IV", "total SUM (of all together),");
        PressAndWait x = Tester.made(FULL);
        is(x, "total 0", 0);
        is(x, "total 1", 12);
        is(x, "total 9999", 12 * 9999);
        is(x, "total number", 66);
        is(x, "total 0-number", -66);
        is(x, "total 9999*9999", 12000000);
        is(x, "total 0-9999*9999", -12000000);
        is(Tester.made(Texts.PLAIN), "total 9999", 0);
    }

    private static void mostAndLeast() {
        t.says("Term IV", "most SUM, least SUM (the greatest, the least of all; 0 without WALKERS).");
        PressAndWait x = Tester.made(FULL);
        is(x, "most number", 11);
        is(x, "least number", 0);
        is(x, "most 0-number", 0);
        is(x, "least 0-number", -11);
        is(x, "most 0-1-number", -1);
        is(x, "least 1+number", 1);
        is(x, "most 5-(number-6)*(number-6)", 5);
        is(x, "least (number-6)*(number-6)-5", -5);
        is(x, "most 9999*9999", 1000000);
        is(x, "least 9999*9999", 1000000);
        is(x, "most 0-9999*9999", -1000000);
        is(x, "least 0-9999*9999", -1000000);
        x = Tester.made(Texts.PLAIN);
        is(x, "most 7", 0);
        is(x, "least 7", 0);
        is(x, "most 0-7", 0);
        is(x, "least 0-7", 0);
    }

    private static void whichParts() {
        t.says("Term IV", "TEST, SUM as in I, but PART: N; number; second; waited; went; harm; calm; pace; trusts; day; "
            + "kind PART; ( SUM ) ; min ( SUM , SUM ) ; max ( SUM , SUM ) .");
        String allowed = " number second waited went harm calm pace trusts day ";
        for (String word : Texts.OWN_WORDS) {
            PressAndWait x = Tester.made(FULL);
            if (allowed.contains(" " + word + " ")) {
                t.due("total " + word, Tester.ask(x, "total " + word) != PressAndWait.NOTHING, true);
                t.due("often " + word + "=0", Tester.ask(x, "often " + word + "=0") >= 0, true);
            } else if (!"kind min max not all".contains(word)) {
                bad(1, "total |" + word);
                bad(1, "often |" + word + "=0");
            }
        }
        PressAndWait x = Tester.made(FULL);
        is(x, "total 0000", 0);
        is(x, "most 9999", 9999);
        is(x, "most(number)", 11);
        is(x, "most min(number,4)", 4);
        is(x, "least max(number,4)", 4);
        is(x, "total kind 0", 2);
        is(x, "total kind(0)", 2);
        is(x, "total kind min(0,1)", 2);
        is(x, "often kind 0=1 and not kind 1=1", 2);
        // PART is less than a PRODUCT: kind is of the 0 alone.
        is(x, "total kind 0*3", 6);
        is(x, "total kind 0+3", 2 + 36);
        is(x, "total number/0", 0);
        is(x, "least (0-1)/2", -1);
    }

    private static void whatTheyAre() {
        t.says("Term IV", "(His number, the SECOND in which he comes, SECONDS he waits; 1 if he GOES, else 0; 1 if he "
            + "is HARMED, else 0; 1 if he is of the KIND of that number, else 0.)");
        PressAndWait x = Tester.made(FULL);
        is(x, "total second", 660);
        is(x, "most second", 110);
        is(x, "least second", 0);
        is(x, "most calm", 50);
        is(x, "most pace", 6);
        is(x, "least pace", 1);
        is(x, "most trusts", 5);
        is(x, "least trusts", 0);
        for (int k = 0; k < 6; k++) {
            is(x, "total kind " + k, 2);
            is(x, "first kind " + k + "=1", 2 * k);
            is(x, "last kind " + k + "=1", 2 * k + 1);
        }
        is(x, "total kind 6", 0);
        is(x, "total kind 9999", 0);
        is(x, "total kind(0-1)", 0);
        is(x, "total kind(number/2)", 12);
        String never = Texts.first(60, 5, 1, 0) + Texts.kind("k", 0, 20, 0);
        x = Tester.made(never + Texts.come("k", 0, 199));
        is(x, "most waited", 300);
        is(x, "least waited", 101);
        is(x, "total went+harm", 0);
        x = Tester.made(never + Texts.come("k", 0, 10, 40) + "red second>9;car second=30;");
        // 0 and 10 go at 10, for the SECONDS 10 to 29; 40 goes at once.
        is(x, "total waited", 10);
        is(x, "total went", 3);
        is(x, "total harm", 0);
        x = Tester.made(never + Texts.come("k", 0, 11, 40) + "red second>9;car second=30;");
        is(x, "total went", 3);
        is(x, "total harm", 1);
        is(x, "first harm=1", 1);
        is(x, "often harm=0", 2);
        Tester.on(x, Tester.image(999, 1, 5, 9));
        is(x, "most day", 999);
        is(x, "least trusts", 9);
    }

    private static void bad(int fault, String marked) {
        PressAndWait x = Tester.made(FULL);
        t.due(marked, Tester.ask(x, Tester.unmarked(marked)), PressAndWait.NOTHING);
        t.due("fault(0) of " + marked, x.fault(0), fault);
        t.due("fault(1) of " + marked, x.fault(1), marked.indexOf('|'));
    }

    private static void wrongByte() {
        t.says("Term IV", "Its FAULTS: 1 as in I (an unknown word at its first byte; what stands behind it, too);");
        bad(1, "|");
        bad(1, " \n|");
        bad(1, Texts.times(1600, " ") + "|");
        bad(1, "|firs all");
        bad(1, "|firstt all");
        bad(1, "|all");
        bad(1, "|1");
        bad(1, "|wa");
        bad(1, "total |x");
        bad(1, "total |abcdefgh");
        bad(1, "total |wa");
        bad(1, "total |ka");
        bad(1, "total kind |ka");
        bad(1, "total kind |all");
        bad(1, "often 1=|x");
        bad(1, "often 1=1 |x");
        bad(1, "total 1234|5");
        bad(1, "total kind 1234|5");
        bad(1, "total|1");
        bad(1, "often not|1=1");
        bad(1, "total kind|0");
        // What stands behind it.
        bad(1, "often all|;");
        bad(1, "often all |all");
        bad(1, "often all|)");
        bad(1, "often all|]");
        bad(1, "total 1|;");
        bad(1, "total 1 |1");
        bad(1, "total 1 |total 1");
        bad(1, "total 1|=1");
        bad(1, "total 1 |or all");
        bad(1, "total 1 |\0");
        // What ends too soon, at its length.
        for (String question : new String[] {"first not [ all or 1 + 2 < 3 ] and all",
            "total min ( 1 , kind 2 * 3 ) - max ( 4 , 5 )",
            "least ( number )"}) {
            String[] pieces = question.split(" ");
            StringBuilder text = new StringBuilder();
            for (int k = 0; k + 1 < pieces.length; k++) {
                text.append(pieces[k]);
                // Cut behind these it is a question of its own.
                if (!(text.toString().endsWith("]") || text.toString().endsWith("3 )"))) {
                    bad(1, text + "|");
                    bad(1, text + " \n|");
                }
                text.append(' ');
            }
            PressAndWait x = Tester.made(FULL);
            t.due(question, Tester.ask(x, question) != PressAndWait.NOTHING, true);
            t.due("with blanks around", Tester.ask(x, "\n " + question + " \n") != PressAndWait.NOTHING, true);
        }
        // No number can't be, no name can be wrong: there are no other FAULTS but 4.
        is(Tester.made(FULL), "total kind 9999*0+9999", 12 * 9999);
    }

    private static void tooDeep() {
        t.says("Term IV", "4 the 7th of ( [ not kind that is open at once (not until its FACT, kind until its PART "
            + "ends), at it.");
        PressAndWait x = Tester.made(FULL);
        is(x, "total ((((((1))))))", 12);
        is(x, "often [[[[[[all]]]]]]", 12);
        is(x, "often not not not not not not all", 12);
        is(x, "total kind kind kind kind kind kind 0 * 0", 0);
        is(x, "total kind(kind(kind(0)))*0", 0);
        is(x, "often not[not[not(1)=1]]", 0);
        is(x, "often not[kind(kind(0))=7]", 12);
        bad(4, "total ((((((|(1)))))))");
        bad(4, "often [[[[[[|[all]]]]]]]");
        bad(4, "often not not not not not not |not all");
        bad(4, "total kind kind kind kind kind kind |kind 0");
        bad(4, "total kind kind kind kind kind kind |(0)");
        bad(4, "total ((((((|kind 0))))))");
        bad(4, "total kind(kind(kind(|kind 0)))");
        bad(4, "total min(min(min(min(min(min(min|(1,2),2),2),2),2),2),2)");
        bad(4, "often not[kind(kind(|(0)))=7]");
        bad(4, "often not[not[not kind |(1)=1]]");
        // What has ended is open no more.
        is(x, "total kind 0+kind 0+kind 0+kind 0+kind 0+kind 0+kind 0", 14);
        is(x, "total kind(kind(kind 0))*0+kind kind kind kind kind kind 0*0", 0);
        is(x, "often not kind 0=1 and not kind 0=1 and not kind 0=1 and not kind 0=1", 10);
        is(x, "often not not not not not kind 0=1 and not not not not not kind 0=1", 10);
        is(x, "total ((((((1))))))+((((((1))))))", 24);
    }

    private static void octetsAre(String name, PressAndWait x, int... want) {
        t.due(name + ": image()", x.image(), want.length);
        for (int k = 0; k < want.length; k++) {
            t.due(name + ": octet(" + k + ")", x.octet(k), want[k]);
        }
        t.due(name + ": behind it", x.octet(want.length), -1);
    }

    private static void imageBytes() {
        t.says("Term IV", "AN IMAGE: DAY (two bytes, the higher first), RULE, green; for each KIND how it trusts;");
        for (int day : new int[] {0, 1, 255, 256, 257, 511, 512, 767, 768, 998, 999}) {
            PressAndWait x = Tester.made(Texts.first(120, 60, 2, 0) + Texts.kinds(6, 0, 1, 9));
            int[] image = Tester.image(day, 2, 60, 9, 9, 9, 9, 9, 0);
            t.due("on", Tester.on(x, image), true);
            t.due("its DAY", x.has(3), day);
            t.due("the last KIND", x.kind(5, 2), 0);
            octetsAre("DAY " + day, x, image);
            t.due("the higher byte", x.octet(0), day / 256);
            t.due("the lower byte", x.octet(1), day % 256);
        }
        octetsAre("no KINDS", Tester.made(Texts.first(10, 1, 0, 0)), Tester.image(0, 0, 1));
        octetsAre("no crossing", new PressAndWait(), Tester.image(0, 0, 0));
        PressAndWait x = Tester.made(Texts.first(10, 9, 1, 0) + Texts.kind("a", 0, 1, 0) + Texts.kind("b", 0, 1, 9));
        octetsAre("two KINDS", x, Tester.image(0, 1, 9, 0, 9));
        x.trust(0, 5);
        x.rule(0);
        x.green(1);
        octetsAre("as it is now", x, Tester.image(0, 0, 1, 5, 9));
    }

    private static void imageCheck() {
        t.says("Term IV", "last a byte: all ahead from 101 on, c = (3 c + it) mod 251.");
        // 101, 303 mod 251 = 52, 156, (468 + 1) mod 251 = 218, (654 + 6) mod 251 = 158.
        octetsAre("by hand", Tester.made(Texts.first(20, 6, 1, 0)), 0, 0, 1, 6, 158);
        octetsAre("without a crossing", new PressAndWait(), 0, 0, 0, 0, 149);
        // Each value of the last byte that can be, 0 and 250 among them, and its right one alone is taken.
        boolean[] met = new boolean[256];
        for (int day = 0; day <= 999; day++) {
            int[] image = Tester.image(day, day % 3, 1 + day % 60, day % 10);
            int right = image[5];
            met[right] = true;
            PressAndWait x = Tester.made(Texts.first(61, 1, 0, 0) + Texts.kind("k", 0, 1, 1));
            t.due("on", Tester.on(x, image), true);
            octetsAre("DAY " + day, x, image);
            for (int wrong : new int[] {(right + 1) % 256, (right + 255) % 256, (right + 5) % 256, (right + 251) % 256}) {
                image[5] = wrong;
                t.due("another last byte", Tester.on(x, image), false);
            }
        }
        t.due("0 is met", met[0], true);
        t.due("250 is met", met[250], true);
        t.due("251 is not", met[251], false);
    }
}
