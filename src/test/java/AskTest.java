/** Promise 28: questions of all walkers, and their FAULTS. */
public final class AskTest {
    private static final Tester t = new Tester("AskTest");
    private static final String TEXT = "cycle 20 green 6 rule 0 least 5;kind kid calm 3 pace 4 trusts 2;"
        + "kind old calm 30 pace 6 trusts 9;comes ann is kid at 0;comes bob is old at 3;comes cid is kid at 10;"
        + "comes dan is old at 18;car phase>12;red waited>calm;";

    public static void main(String[] args) {
        answers();
        faults();
        withoutCrossing();
        withoutWalkers();
        cutQuestions();
        t.finish();
    }

    private static void is(PressAndWait x, String text, long want) {
        t.due(text, Tester.ask(x, text), want);
        t.due("fault(0) of " + text, x.fault(0), 0);
        t.due("fault(1) of " + text, x.fault(1), -1);
    }

    private static void answers() {
        // ann crosses at 0, bob at 20; cid goes at 14 and is harmed; dan crosses at 20.
        PressAndWait x = Tester.made(TEXT);
        is(x, "total number", 6);
        is(x, "total second", 31);
        is(x, "total waited", 17 + 4 + 2);
        is(x, "total went", 1);
        is(x, "total harm", 1);
        is(x, "total calm", 66);
        is(x, "total pace", 20);
        is(x, "total trusts", 22);
        is(x, "total day", 0);
        is(x, "total 7", 28);
        is(x, "most waited", 17);
        is(x, "least waited", 0);
        is(x, "least 0-waited", -17);
        is(x, "most 0-waited", 0);
        is(x, "most 0-1-waited", -1);
        is(x, "first waited>1", 1);
        is(x, "last waited>1", 3);
        is(x, "first waited=0", 0);
        is(x, "last waited=0", 0);
        is(x, "first waited>99", -1);
        is(x, "last waited>99", -1);
        is(x, "often waited>1", 3);
        is(x, "often all", 4);
        is(x, "often not all", 0);
        is(x, " \n often\n[all ] ", 4);
        is(x, "first went=1 and harm=1", 2);
        is(x, "total kind 0", 2);
        is(x, "total kind 1", 2);
        is(x, "total kind 2", 0);
        is(x, "total kind(0-1)", 0);
        // kind 0 is 1 for kids, who are not of KIND 1; it is 0 for the old, who are not of KIND 0.
        is(x, "total kind kind 0", 0);
        is(x, "total kind kind 1", 4);
        is(x, "total kind 0*number", 2);
        is(x, "often kind number=1", 2);
        is(x, "total kind min(number,1)+max(kind 0,2)", 3 + 8);
        // All together goes beyond what one sum can be.
        is(x, "total 9999*9999", 4000000);
        is(x, "total 0-9999*9999", -4000000);
        is(x, "most 9999*9999*9999", 1000000);
        is(x, "total kind kind kind kind kind kind 0", 0);
        is(x, "often not not not not not not all", 4);
        is(x, "total ((((((1))))))", 4);
        x.days(3);
        is(x, "total day", 12);
        x.trust(0, 8);
        is(x, "total trusts", 34);
        t.due("no ACT, no refusal", x.has(7), 2);
        t.due("status(1)", x.status(1), 0);
        t.due("the tape is gone", x.feed(0, 0, 0, 0, 0), 20);
    }

    private static void bad(int fault, String marked) {
        PressAndWait x = Tester.made(TEXT);
        t.due(marked, Tester.ask(x, Tester.unmarked(marked)), PressAndWait.NOTHING);
        t.due("fault(0) of " + marked, x.fault(0), fault);
        t.due("fault(1) of " + marked, x.fault(1), marked.indexOf('|'));
        t.due("the tape is gone", x.feed(0, 0, 0, 0, 0), 20);
        t.due("status(1)", x.status(1), 0);
        t.due("the crossing stays", x.has(2), 4);
        x.end(0);
        t.due("a good one", Tester.ask(x, "often all"), 4);
        t.due("has no fault", x.fault(0), 0);
        t.due("has no place", x.fault(1), -1);
    }

    private static void faults() {
        bad(1, "|");
        bad(1, "  |");
        bad(1, "|frst all");
        bad(1, "|firsts all");
        bad(1, "|all");
        bad(1, "|(1)");
        bad(1, "first|");
        bad(1, "first |");
        bad(1, "total|1");
        bad(1, "total 1234|5");
        bad(1, "total |ann");
        bad(1, "total |kid");
        bad(1, "total |phase");
        bad(1, "total |gap");
        bad(1, "total |reds");
        bad(1, "total |abcdefghij");
        bad(1, "total kind|");
        bad(1, "total kind|0");
        bad(1, "total kind |kid");
        bad(1, "total kind |-1");
        bad(1, "total |all");
        bad(1, "total 1|<2");
        bad(1, "total 1 |2");
        bad(1, "total 1|;");
        bad(1, "often all|;");
        bad(1, "often all |all");
        bad(1, "often 1|");
        bad(1, "often 1<2|)");
        bad(1, "often [1<2|");
        bad(1, "often 1<2 |x");
        bad(1, "often 1<2 or|");
        bad(1, "often 1<2|or all");
        bad(1, "most (1|");
        bad(1, "most min(1|)");
        bad(1, "first waited>1 |\t");
        bad(4, "total kind kind kind kind kind kind |kind 0");
        bad(4, "total ((((((|(1");
        bad(4, "total kind(kind(kind(|kind 0");
        bad(4, "total kind(kind(kind(1)+kind(|(1");
        bad(4, "often not not not not not not |not all");
        bad(4, "often not [not [kind kind |kind 1=0");
        bad(4, "often [[[[[[|[all");
        bad(4, "total min(min(min(min(min(min(min|(1");
        bad(1, "total ((((((1|(");
        // A kind is open until its PART ends, a not until its FACT ends.
        PressAndWait x = Tester.made(TEXT);
        is(x, "total kind 0+kind 0+kind 0+kind 0+kind 0+kind 0+kind 0+kind 0", 16);
        is(x, "often not kind 0=1 and not kind 0=1 and not kind 0=1 and not kind 0=1 and not kind 0=1", 2);
    }

    private static void withoutCrossing() {
        PressAndWait x = new PressAndWait();
        t.due("ask", Tester.ask(x, "often all"), PressAndWait.NOTHING);
        t.due("the tape is gone", x.feed(0, 0, 0, 0, 0), 20);
        t.due("a text with a fault", x.crossing(), -1);
        t.due("fault(0)", x.fault(0), 1);
        t.due("ask", Tester.ask(x, "often all and (("), PressAndWait.NOTHING);
        t.due("the fault stays", x.fault(0), 1);
        t.due("its place stays", x.fault(1), 0);
    }

    private static void withoutWalkers() {
        PressAndWait x = Tester.made("cycle 20 green 6 rule 0 least 5;");
        is(x, "first all", -1);
        is(x, "last all", -1);
        is(x, "often all", 0);
        is(x, "total 5", 0);
        is(x, "most 5", 0);
        is(x, "least 5", 0);
    }

    /** A question cut anywhere answers alike, whatever stands behind its end on the tape. */
    private static void cutQuestions() {
        String[] questions = {"often not[number=1]and kind 0=1 or harm<went", "least min(waited,trusts)+max(calm,9999)/pace",
            "first second>0012*day", "most kind(number)", "last all", "total waited"};
        for (String whole : questions) {
            for (int n = 0; n <= whole.length(); n++) {
                PressAndWait blanks = Tester.made(TEXT);
                long due = Tester.ask(blanks, whole.substring(0, n));
                PressAndWait rest = Tester.made(TEXT);
                Tester.tape(rest, whole);
                rest.end(n);
                t.due(whole + " cut off at " + n, rest.ask(), due);
                t.due(whole + " cut off at " + n + ", its place", rest.fault(1), blanks.fault(1));
                PressAndWait full = Tester.made(TEXT);
                t.due(whole + " to " + n + ", tape full",
                    Tester.ask(full, Texts.times(1600 - n, " ") + whole.substring(0, n)), due);
                int place = blanks.fault(0) == 0 ? -1 : blanks.fault(1) + 1600 - n;
                t.due(whole + " to " + n + ", tape full, its place", full.fault(1), place);
                t.due(whole + " to " + n + ", tape full, which", full.fault(0), blanks.fault(0));
            }
        }
    }
}
