/** Promises 1 to 9: a new object, the tape, the text of a crossing and its FAULTS, what it has. */
public final class TextTest {
    private static final String FIRST = "cycle 20 green 6 rule 0 least 5;";
    private static final String KIND = FIRST + "kind k calm 1 pace 2 trusts 3;";
    private static final Tester t = new Tester("TextTest");

    public static void main(String[] args) {
        newObject();
        tape();
        goodTexts();
        wrongTexts();
        wrongNumbers();
        wrongNames();
        tooDeep();
        tooMany();
        whatStays();
        whatItHas();
        cutTexts();
        t.finish();
    }

    private static void newObject() {
        PressAndWait x = new PressAndWait();
        for (int what = 0; what <= 7; what++) {
            t.due("has(" + what + ") at first", x.has(what), 0);
        }
        t.due("fault(0) at first", x.fault(0), 0);
        t.due("fault(1) at first", x.fault(1), -1);
        t.due("fault(2)", x.fault(2), -1);
        t.due("fault(-1)", x.fault(-1), -1);
        for (int what = 0; what <= 5; what++) {
            t.due("status at first", x.status(what), 0);
        }
    }

    private static void tape() {
        PressAndWait x = new PressAndWait();
        for (int k = 1; k <= 80; k++) {
            t.due("feed " + k, x.feed(0x20202020, 0x20202020, 0x20202020, 0x20202020, 0x20202020), 20 * k);
        }
        t.due("feed beyond 1600", x.feed(0, 0, 0, 0, 0), -1);
        t.due("status(0)", x.status(0), 1);
        t.due("end(1601)", x.end(1601), false);
        t.due("end(-1)", x.end(-1), false);
        t.due("end(MIN)", x.end(Integer.MIN_VALUE), false);
        t.due("status(0)", x.status(0), 4);
        t.due("end(1600)", x.end(1600), true);
        t.due("end(1581)", x.end(1581), true);
        t.due("feed with 1581", x.feed(0, 0, 0, 0, 0), -1);
        t.due("end(1580)", x.end(1580), true);
        t.due("feed with 1580", x.feed(0, 0, 0, 0, 0), 1600);
        t.due("end(0)", x.end(0), true);
        t.due("end(0) again", x.end(0), true);
        t.due("end(1) of none", x.end(1), false);
        // The order of bytes: each number's highest first.
        x.feed(0x6379636C, 0x65203130, 0x20677265, 0x656E2031, 0x2072756C);
        x.feed(0x65203020, 0x6C656173, 0x7420303B, 0x7F7F7F7F, -1);
        t.due("end(32)", x.end(32), true);
        t.due("crossing by its bytes", x.crossing(), 1);
        t.due("its cycle", x.has(0), 10);
        t.due("the tape is gone", x.feed(0, 0, 0, 0, 0), 20);
        t.due("a byte above 127", x.feed(-1, -1, -1, -1, -1), 40);
        t.due("crossing of such bytes", x.crossing(), -1);
        t.due("the tape is gone with a fault, too", x.feed(0, 0, 0, 0, 0), 20);
    }

    /**
     * A text cut anywhere goes wrong alike, whatever stands behind its end: blanks, the rest of it that
     * end() has cut off, or nothing, as the tape is full.
     */
    private static void cutTexts() {
        String whole = KIND + "kind abcdef calm 99 pace 20 trusts 9;comes wa is k at 199;comes wb is abcdef at 0;"
            + "car phase>3 or second<9999 and[not all];red waited+calm*pace-trusts/gap=min(reds,1);"
            + "learns max(waited,day)-0003;away 100;";
        for (int n = 0; n <= whole.length(); n++) {
            PressAndWait blanks = new PressAndWait();
            int due = Tester.crossing(blanks, whole.substring(0, n));
            PressAndWait rest = new PressAndWait();
            Tester.tape(rest, whole);
            t.due("end(" + n + ")", rest.end(n), true);
            t.due(n + " bytes of all", rest.crossing(), due);
            PressAndWait full = new PressAndWait();
            t.due(n + " bytes at the tape's end", Tester.crossing(full, filledUp(whole, n)), due);
            alike(n, blanks, rest, full);
        }
    }

    private static String filledUp(String whole, int n) {
        return Texts.times(1600 - n, " ") + whole.substring(0, n);
    }

    private static void alike(int n, PressAndWait blanks, PressAndWait rest, PressAndWait full) {
        boolean good = blanks.fault(0) == 0;
        t.due(n + ": which FAULT, cut off", rest.fault(0), blanks.fault(0));
        t.due(n + ": which FAULT, tape full", full.fault(0), blanks.fault(0));
        t.due(n + ": its place, cut off", rest.fault(1), blanks.fault(1));
        t.due(n + ": its place, tape full", full.fault(1), good ? -1 : blanks.fault(1) + 1600 - n);
    }

    private static void goodTexts() {
        t.good(1, FIRST);
        t.good(1, "\n cycle\n20 green 6\nrule 0 least 5 \n;\n ");
        t.good(1, "cycle 10 green 9 rule 2 least 99;");
        t.good(1, "cycle 120 green 60 rule 1 least 0;");
        t.good(1, "cycle 0061 green 0060 rule 0001 least 0000;");
        t.good(3, FIRST + "kind first calm 0 pace 1 trusts 0;kind abcdef calm 99 pace 20 trusts 9;");
        t.good(4, KIND + "comes often is k at 0;comes z is k at 199;");
        t.good(4, FIRST + "away 0;away 100;away 7;");
        t.good(4, FIRST + "car all;red all;learns 0;");
        t.good(2, FIRST + "car[phase<3]or not all and(second)>day;");
        t.good(2, FIRST + "car min(1,second)+max(day,phase)*2-3/4=0 or 9999>0000;");
        t.good(2, FIRST + "red waited+calm*pace-trusts/gap=reds and second<day;");
        t.good(2, FIRST + "learns waited+calm*pace-trusts/second-day;");
        t.good(2, FIRST + "red not not not not not not all;");
        t.good(2, FIRST + "red [[[[[[all]]]]]]and[[[[[[all]]]]]];");
        t.good(2, FIRST + "learns ((((((1))))))+((((((1))))));");
        t.good(2, FIRST + "red not [not [not (1)=1]]and not not not[[[1=1]]];");
        t.good(2, FIRST + "red min(min(min(min(min(min(1,2),2),2),2),2),2)<max(max(1,2),max(3,4));");
        StringBuilder many = new StringBuilder(FIRST);
        for (int k = 1; k < 80; k++) {
            many.append("away 1;");
        }
        t.good(80, many.toString());
        t.good(80, many + " \n");
        StringBuilder deepSum = new StringBuilder(FIRST + "learns 1");
        while (deepSum.length() < 1590) {
            deepSum.append("+1");
        }
        t.good(2, deepSum + ";");
    }

    private static void wrongTexts() {
        t.bad(1, "|");
        t.bad(1, " \n |");
        t.bad(1, "|x;");
        t.bad(1, "|;");
        t.bad(1, "|cycl 20");
        t.bad(1, "|cyclee 20");
        t.bad(1, "|Cycle 20");
        t.bad(1, "|kind k calm 1 pace 2 trusts 3;");
        t.bad(1, "cycle|");
        t.bad(1, "cycle  |");
        t.bad(1, "cycle |green");
        t.bad(1, "cycle |-5");
        t.bad(1, "cycle 20|");
        t.bad(1, "cycle 20 |grean 6");
        t.bad(1, "cycle 0020|0");
        t.bad(1, "cycle 9999|9 green");
        t.bad(1, "cycle|20 green 6");
        t.bad(1, "cycle 20|green 6");
        t.bad(1, "cycle 20 green 6 rule 0 least 5|");
        t.bad(1, "cycle 20 green 6 rule 0 least 5 |5;");
        t.bad(1, "cycle 20 green 6 rule 0 least 5 |kind");
        t.bad(1, FIRST + "|;");
        t.bad(1, FIRST + "|cycle 20 green 6 rule 0 least 5;");
        t.bad(1, FIRST + "|carx all;");
        t.bad(1, FIRST + "|second;");
        t.bad(1, FIRST + "|\t");
        t.bad(1, FIRST + "|7");
        t.bad(1, FIRST + "kind |calm calm 1");
        t.bad(1, FIRST + "kind |max calm 1");
        t.bad(1, FIRST + "kind |7");
        t.bad(1, FIRST + "kind abcdef|g calm 1");
        t.bad(1, FIRST + "kind abcdef|ghij calm 1");
        t.bad(1, FIRST + "kind second|s calm 1");
        t.bad(1, FIRST + "kind a|7 calm 1");
        t.bad(1, FIRST + "kind |A calm 1");
        t.bad(1, FIRST + "kind |");
        t.bad(1, FIRST + "kind a|");
        t.bad(1, FIRST + "kind a |kalm 1");
        t.bad(1, FIRST + "kind a calm|1");
        t.bad(1, KIND + "comes w is |is at 1;");
        t.bad(1, KIND + "comes w |k at 1;");
        t.bad(1, KIND + "comes w is abcdef|g at 1;");
        t.bad(1, KIND + "comes w is k |1");
        t.bad(1, KIND + "comes w is k at 1 |2;");
        t.bad(1, FIRST + "away |x");
        t.bad(1, FIRST + "car |;");
        t.bad(1, FIRST + "car 1|;");
        t.bad(1, FIRST + "car 1<|;");
        t.bad(1, FIRST + "car 1<2 |3;");
        t.bad(1, FIRST + "car 1<2|<3;");
        t.bad(1, FIRST + "car 1<|=2;");
        t.bad(1, FIRST + "car 1<2 and |and;");
        t.bad(1, FIRST + "car 1<2 |alland;");
        t.bad(1, FIRST + "car |alland 1<2;");
        t.bad(1, FIRST + "car 1<2|and 1<2;");
        t.bad(1, FIRST + "car 1<2 and|1<2;");
        t.bad(1, FIRST + "car not|1<2;");
        t.bad(1, FIRST + "car (1|<");
        t.bad(1, FIRST.substring(0, 31) + "|(");
        t.bad(1, FIRST + "car (1|<2);");
        t.bad(1, FIRST + "car [1<2|);");
        t.bad(1, FIRST + "car [1|];");
        t.bad(1, FIRST + "car all|<1;");
        t.bad(1, FIRST + "car min |1;");
        t.bad(1, FIRST + "car min(1|);");
        t.bad(1, FIRST + "car min(1,2|,3)<1;");
        t.bad(1, FIRST + "car 1234|5<1;");
        t.bad(1, FIRST + "car 1234|a<1;");
        t.bad(1, FIRST + "car phase |second<1;");
        t.bad(1, FIRST + "car second<|-1;");
        t.bad(1, FIRST + "car |k<1;");
        t.bad(1, FIRST + "car 1<2|");
        t.bad(1, FIRST + "car 1<2 or |");
        t.bad(1, FIRST + "learns 1|<2;");
        t.bad(1, FIRST + "learns |all;");
        t.bad(1, FIRST + "learns |not 1;");
        t.bad(1, FIRST + "learns |[1];");
        t.bad(1, FIRST + "red |kind 0=1;");
        wordsWhereTheyAreNot("car", "waited calm pace trusts gap reds number went harm");
        wordsWhereTheyAreNot("red", "phase number went harm");
        wordsWhereTheyAreNot("learns", "phase gap reds number went harm");
    }

    private static void wordsWhereTheyAreNot(String statement, String words) {
        for (String word : words.split(" ")) {
            t.bad(1, FIRST + statement + " 1+|" + word + ";");
        }
    }

    private static void wrongNumbers() {
        t.bad(2, "cycle |9 green");
        t.bad(2, "cycle |121 green");
        t.bad(2, "cycle |9999");
        t.bad(2, "cycle |9green");
        t.bad(2, "cycle 20 green |0 rule");
        t.bad(2, "cycle 20 green |20");
        t.bad(2, "cycle 120 green |61");
        t.bad(2, "cycle 20 green 6 rule |3");
        t.bad(2, "cycle 20 green 6 rule 0 least |100");
        t.bad(2, FIRST + "kind k calm |100 pace");
        t.bad(2, FIRST + "kind k calm 1 pace |0");
        t.bad(2, FIRST + "kind k calm 1 pace |21;");
        t.bad(2, FIRST + "kind k calm 1 pace 2 trusts |10;");
        t.bad(2, KIND + "comes w is k at |200;");
        t.bad(2, FIRST + "away |101;");
    }

    private static void wrongNames() {
        t.bad(3, KIND + "kind |k calm 1");
        t.bad(3, KIND + "comes |k is k at 1;");
        t.bad(3, KIND + "comes w is |w at 1;");
        t.bad(3, KIND + "comes w is |kk at 1;");
        t.bad(3, KIND + "comes v is k at 1;comes w is |v at 1;");
        t.bad(3, KIND + "comes v is k at 1;comes |v is k at 1;");
        t.bad(3, KIND + "comes v is k at 1;kind |v calm 1");
        t.bad(3, FIRST + "comes w is |k at 1;kind k calm 1 pace 2 trusts 3;");
        t.bad(3, KIND + "comes w is |abcdef7");
        // What is the start of a name, or goes on behind it, is another one.
        t.good(5, FIRST + "kind ab calm 1 pace 2 trusts 3;kind a calm 1 pace 2 trusts 3;"
            + "kind abc calm 1 pace 2 trusts 3;comes b is a at 1;");
    }

    private static void tooDeep() {
        t.bad(4, FIRST + "red not not not not not not |not all;");
        t.bad(4, FIRST + "red [[[[[[|[all;");
        t.bad(4, FIRST + "learns ((((((|(1;");
        t.bad(4, FIRST + "red not [not [not (|(1)=1]]and;");
        t.bad(4, FIRST + "learns min(1,max(1,min(1,max(1,min(1,max(1,min|(1");
        t.bad(4, FIRST + "red not 1=(((((|(1");
        t.bad(4, FIRST + "red all and not not not not not not 1=|(1");
        t.good(2, FIRST + "red not not not not not not 1=1 and not not not not not not 1=1;");
        t.bad(1, FIRST + "learns ((((((1|(1;");
        t.bad(1, FIRST + "red [[[[[[1|[;");
    }

    private static void tooMany() {
        StringBuilder kinds = new StringBuilder(FIRST);
        for (char c = 'a'; c < 'g'; c++) {
            kinds.append("kind ").append(c).append(" calm 1 pace 2 trusts 3;");
        }
        t.good(7, kinds.toString());
        t.bad(5, kinds + "|kind x calm");
        t.bad(5, kinds + " \n|kind");
        StringBuilder walkers = new StringBuilder(KIND);
        for (char c = 'l'; c < 'x'; c++) {
            walkers.append("comes ").append(c).append(" is k at 1;");
        }
        t.good(14, walkers.toString());
        t.bad(5, walkers + "|comes x is k");
        t.bad(5, FIRST + "car all;|car all;");
        t.bad(5, FIRST + "red all;car all;|red");
        t.bad(5, FIRST + "learns 0;|learns x");
        StringBuilder many = new StringBuilder(FIRST);
        for (int k = 1; k < 80; k++) {
            many.append("away 1;");
        }
        t.bad(5, many + "|away 1;");
        t.bad(5, many + " |x");
        t.bad(5, many + "|;");
        t.bad(5, many + "|cycle");
    }

    private static void whatStays() {
        PressAndWait x = Tester.made(KIND + "comes w is k at 30;away 50;");
        t.due("green(7)", x.green(7), true);
        t.due("days(2)", x.days(2) >= 0, true);
        t.due("see", Tester.see(x, 0, 0, 1), 1);
        x.image();
        t.due("a text with a fault", Tester.crossing(x, "cycle 30 green 7 rule 1 least 0;kind"), -1);
        t.due("the cycle stays", x.has(0), 20);
        t.due("the DAY stays", x.has(3), 2);
        t.due("the green stays", x.has(5), 7);
        t.due("what is SEEN stays", x.has(6), 1);
        t.due("ACTS stay", x.has(7), 2);
        t.due("the fault", x.fault(0), 1);
        t.due("status(1)", x.status(1), 1);
        t.due("the same again", Tester.crossing(x, KIND + "comes w is k at 30;away 50;"), 4);
        t.due("the DAY is 0", x.has(3), 0);
        t.due("the green as told", x.has(5), 6);
        t.due("nothing is SEEN", x.has(6), 0);
        t.due("nothing can be undone", x.has(7), 0);
        t.due("undo", x.undo(), false);
        t.due("no fault", x.fault(0), 0);
        t.due("no place", x.fault(1), -1);
        // A shorter crossing has nothing of the longer one ahead of it.
        t.due("a bare one", Tester.crossing(x, FIRST), 1);
        t.due("no KINDS", x.has(1), 0);
        t.due("no WALKERS", x.has(2), 0);
        t.due("nobody waits", x.day(0), 0);
        t.due("no car", x.car(0), 0);
        t.due("letter of none", x.letter(0, 0, 0), -1);
    }

    private static void whatItHas() {
        PressAndWait x = Tester.made("cycle 30 green 7 rule 2 least 4;kind kid calm 3 pace 4 trusts 2;"
            + "kind abcdef calm 99 pace 20 trusts 9;comes zoe is kid at 5;comes al is abcdef at 199;"
            + "comes bo is kid at 7;");
        int[] has = {30, 2, 3, 0, 2, 7, 0, 0};
        for (int what = 0; what < has.length; what++) {
            t.due("has(" + what + ")", x.has(what), has[what]);
        }
        t.due("has(8)", x.has(8), -1);
        t.due("has(-1)", x.has(-1), -1);
        name(x, 0, 0, "kid");
        name(x, 0, 1, "abcdef");
        name(x, 1, 0, "zoe");
        name(x, 1, 2, "bo");
        t.due("letter(0, 2, 0)", x.letter(0, 2, 0), -1);
        t.due("letter(1, 3, 0)", x.letter(1, 3, 0), -1);
        t.due("letter(2, 0, 0)", x.letter(2, 0, 0), -1);
        t.due("letter(-1, 0, 0)", x.letter(-1, 0, 0), -1);
        t.due("letter(0, -1, 0)", x.letter(0, -1, 0), -1);
        t.due("letter(0, 0, 6)", x.letter(0, 0, 6), -1);
        t.due("letter(0, 0, -1)", x.letter(0, 0, -1), -1);
        int[][] kinds = {{3, 4, 2, 5, -1}, {99, 20, 9, 2, -1}};
        for (int k = 0; k < 2; k++) {
            for (int what = 0; what < 5; what++) {
                t.due("kind(" + k + ", " + what + ")", x.kind(k, what), kinds[k][what]);
            }
        }
        t.due("kind(0, -1)", x.kind(0, -1), -1);
        t.due("kind(2, 0)", x.kind(2, 0), -1);
        t.due("kind(-1, 0)", x.kind(-1, 0), -1);
        x.trust(1, 4);
        t.due("how it trusts now", x.kind(1, 2), 4);
        t.due("walker(1, 0)", x.walker(1, 0), 1);
        t.due("walker(1, 1)", x.walker(1, 1), 199);
        t.due("walker(2, 1)", x.walker(2, 1), 7);
        t.due("walker(3, 0)", x.walker(3, 0), -1);
        t.due("walker(-1, 0)", x.walker(-1, 0), -1);
        t.due("walker(0, 7)", x.walker(0, 7), -1);
        t.due("walker(0, -1)", x.walker(0, -1), -1);
    }

    private static void name(PressAndWait x, int kind, int which, String name) {
        for (int k = 0; k < 6; k++) {
            int want = k < name.length() ? name.charAt(k) - 'a' + 1 : 0;
            t.due("letter(" + kind + ", " + which + ", " + k + ")", x.letter(kind, which, k), want);
        }
    }
}
