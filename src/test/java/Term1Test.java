/** Term I, sentence by sentence: the text of a crossing, its bounds and its FAULTS. */
public final class Term1Test {
    private static final Tester t = new Tester("Term1Test");
    private static final String FIRST = Texts.PLAIN;
    private static final String KIND = FIRST + "kind k calm 1 pace 2 trusts 3;";

    public static void main(String[] args) {
        statements();
        firstStatement();
        kinds();
        walkers();
        oneEach();
        away();
        chains();
        digits();
        parts();
        phase();
        gap();
        reds();
        waitedAndKind();
        fromTheLeft();
        division();
        held();
        names();
        ownWords();
        blanks();
        firstFault();
        wrongByte();
        endsTooSoon();
        wrongNumber();
        wrongName();
        tooDeep();
        tooMany();
        t.covers("Term I");
        t.finish();
    }

    private static void statements() {
        t.says("Term I", "A CROSSING is a text: { STATEMENT ; } (80 at most):");
        t.good(1, FIRST);
        t.good(2, FIRST + "away 1;");
        t.good(79, FIRST + Texts.times(78, "away 1;"));
        t.good(80, FIRST + Texts.times(79, "away 1;"));
        t.bad(5, FIRST + Texts.times(79, "away 1;") + "|away 1;");
        t.bad(1, "|");
        t.bad(1, FIRST.substring(0, FIRST.length() - 1) + "|");
        t.bad(1, FIRST + "away 1|");
        t.bad(1, FIRST + "|;");
    }

    private static void firstStatement() {
        t.says("Term I", "cycle N green N rule N least N (10 .. 120; 1 .. 60, below the cycle; 0 .. 2; 0 .. 99; the "
            + "first STATEMENT, and it alone);");
        int[][] can = {{10, 1, 0, 0}, {10, 9, 0, 0}, {120, 1, 2, 99}, {120, 60, 1, 98}, {61, 60, 0, 1}, {60, 59, 0, 1}};
        for (int[] n : can) {
            PressAndWait x = new PressAndWait();
            t.due("cycle " + n[0], Tester.crossing(x, Texts.first(n[0], n[1], n[2], n[3])), 1);
            t.due("the cycle", x.has(0), n[0]);
            t.due("the RULE", x.has(4), n[2]);
            t.due("the green", x.has(5), n[1]);
        }
        t.bad(2, "cycle |9 green 1 rule 0 least 0;");
        t.bad(2, "cycle |0 green 1 rule 0 least 0;");
        t.bad(2, "cycle |121 green 1 rule 0 least 0;");
        t.bad(2, "cycle |9999 green 1 rule 0 least 0;");
        t.bad(2, "cycle 10 green |0 rule 0 least 0;");
        t.bad(2, "cycle 10 green |10 rule 0 least 0;");
        t.bad(2, "cycle 60 green |60 rule 0 least 0;");
        t.bad(2, "cycle 61 green |61 rule 0 least 0;");
        t.bad(2, "cycle 120 green |61 rule 0 least 0;");
        t.bad(2, "cycle 20 green 6 rule |3 least 0;");
        t.bad(2, "cycle 20 green 6 rule 0 least |100;");
        t.bad(1, "cycle 20 green 6 rule |-1 least 0;");
        t.bad(1, "cycle 20 green 6 rule 0 least |-1;");
        t.bad(1, "cycle 20 |rule 0 green 6 least 0;");
        t.bad(1, "cycle 20 green 6 rule 0|;");
        t.bad(1, "|away 1;" + FIRST);
        t.bad(1, "|kind k calm 1 pace 2 trusts 3;" + FIRST);
        t.bad(1, FIRST + "|" + FIRST);
        t.bad(1, FIRST + "away 1;|" + FIRST);
        // least tells what it is by when the light becomes green: who comes at 0 crosses at least.
        int[] least = {0, 1, 98, 99};
        for (int l : least) {
            PressAndWait x = Tester.made(Texts.first(10, 1, 1, l) + Texts.kind("k", 0, 1, 1) + Texts.come("k", 0));
            t.due("least " + l, x.walker(0, 2), l);
        }
    }

    private static void kinds() {
        t.says("Term I", "kind NAME calm N pace N trusts N (0 .. 99; 1 .. 20; 0 .. 9; 6 KINDS);");
        int[][] can = {{0, 1, 0}, {99, 20, 9}, {1, 2, 1}, {98, 19, 8}};
        for (int[] n : can) {
            PressAndWait x = Tester.made(FIRST + Texts.kind("k", n[0], n[1], n[2]));
            for (int what = 0; what < 3; what++) {
                t.due("kind(0, " + what + ")", x.kind(0, what), n[what]);
            }
        }
        t.bad(2, FIRST + "kind k calm |100 pace 1 trusts 0;");
        t.bad(2, FIRST + "kind k calm 0 pace |0 trusts 0;");
        t.bad(2, FIRST + "kind k calm 0 pace |21 trusts 0;");
        t.bad(2, FIRST + "kind k calm 0 pace 1 trusts |10;");
        t.bad(1, FIRST + "kind k calm |-1 pace 1 trusts 0;");
        t.bad(1, FIRST + "kind k calm 0 pace |-1 trusts 0;");
        t.bad(1, FIRST + "kind k calm 0 pace 1 trusts |-1;");
        t.bad(1, FIRST + "kind k |pace 1 calm 0 trusts 0;");
        t.bad(1, FIRST + "kind k calm 0 pace 1|;");
        t.good(7, FIRST + Texts.kinds(6, 0, 1, 0));
        t.due("6 KINDS", Tester.made(FIRST + Texts.kinds(6, 0, 1, 0)).has(1), 6);
        t.due("no KINDS", Tester.made(FIRST).has(1), 0);
        t.bad(5, FIRST + Texts.kinds(6, 0, 1, 0) + "|kind kg calm 0 pace 1 trusts 0;");
    }

    private static void walkers() {
        t.says("Term I", "comes NAME is NAME at N (a WALKER, his KIND, a SECOND 0 .. 199; 12 WALKERS);");
        for (int second : new int[] {0, 1, 198, 199}) {
            PressAndWait x = Tester.made(KIND + "comes w is k at " + second + ";");
            t.due("at " + second, x.walker(0, 1), second);
        }
        t.bad(2, KIND + "comes w is k at |200;");
        t.bad(2, KIND + "comes w is k at |9999;");
        t.bad(1, KIND + "comes w is k at |-1;");
        t.bad(1, KIND + "comes w is k|;");
        t.bad(1, KIND + "comes w |at 1 is k;");
        t.good(14, KIND + Texts.twelve("k", 7));
        PressAndWait x = Tester.made(KIND + Texts.twelve("k", 7));
        t.due("12 WALKERS", x.has(2), 12);
        t.due("the last one comes, too", x.walker(11, 1), 7);
        t.due("no WALKERS", Tester.made(KIND).has(2), 0);
        t.bad(5, KIND + Texts.twelve("k", 7) + "|comes m is k at 7;");
        // The first and the last of six KINDS can be asked for.
        x = Tester.made(FIRST + Texts.kinds(6, 0, 1, 0) + "comes a is kf at 1;comes b is ka at 1;");
        t.due("of the last KIND", x.walker(0, 0), 5);
        t.due("of the first KIND", x.walker(1, 0), 0);
    }

    private static void oneEach() {
        t.says("Term I", "car TEST, red TEST, learns SUM (one each);");
        t.good(1, FIRST);
        t.good(4, FIRST + "car all;red all;learns 0;");
        t.good(4, FIRST + "learns 0;red all;car all;");
        t.bad(5, FIRST + "car all;|car all;");
        t.bad(5, FIRST + "red all;|red all;");
        t.bad(5, FIRST + "learns 0;|learns 0;");
        t.bad(5, FIRST + "car all;red all;learns 0;|car all;");
        t.bad(5, FIRST + "car all;red all;learns 0;|red all;");
        t.bad(5, FIRST + "car all;red all;learns 0;|learns 0;");
        // In any order, with others between: each is what it tells.
        String[] one = {"car second=9;", "red waited=3;", "learns 7-waited;"};
        int[][] orders = {{0, 1, 2}, {0, 2, 1}, {1, 0, 2}, {1, 2, 0}, {2, 0, 1}, {2, 1, 0}};
        for (int[] o : orders) {
            String text = FIRST + one[o[0]] + Texts.kind("k", 0, 2, 0) + one[o[1]] + Texts.come("k", 6) + one[o[2]] + "away 1;";
            PressAndWait x = Tester.made(text);
            t.due("its car: " + text, x.car(9), 1);
            t.due("no other car: " + text, x.car(8), 0);
            t.due("its red: " + text, x.walker(0, 2), 9);
            t.due("its harm: " + text, x.walker(0, 5), 1);
            x.days(1);
            t.due("its learns: " + text, x.kind(0, 2), 4);
        }
        t.bad(1, FIRST + "car|;");
        t.bad(1, FIRST + "red|;");
        t.bad(1, FIRST + "learns|;");
        t.bad(1, FIRST + "car 1|;");
        t.bad(1, FIRST + "red 1|;");
        t.bad(1, FIRST + "learns |all;");
        t.bad(1, FIRST + "learns 1|=1;");
    }

    private static void stayAway(String text, int want) {
        PressAndWait x = Tester.made(KIND + Texts.twelve("k", 7) + text);
        t.due("who stays away by [" + text + "]", x.chance(10), want);
    }

    private static void away() {
        t.says("Term I", "away N (0 .. 100; the last one counts, 0 without).");
        t.good(2, FIRST + "away 0;");
        t.good(2, FIRST + "away 100;");
        t.bad(2, FIRST + "away |101;");
        t.bad(1, FIRST + "away |-1;");
        t.bad(1, FIRST + "away|;");
        stayAway("", 0);
        stayAway("away 0;", 0);
        stayAway("away 100;", 120);
        stayAway("away 100;away 0;", 0);
        stayAway("away 0;away 100;", 120);
        stayAway("away 0;away 100;away 0;", 0);
        // 99 leaves out just the draws of 99, 1 takes just those of 0.
        int[] draws = new int[100];
        long x = 1;
        for (int k = 0; k < 120; k++) {
            x = (1103515245L * x + 12345L) % 2147483648L;
            draws[(int) (x / 64 % 100)]++;
        }
        stayAway("away 99;", 120 - draws[99]);
        stayAway("away 1;", draws[0]);
    }

    private static void holds(String test, boolean want) {
        PressAndWait x = Tester.made(FIRST + "car " + test + ";");
        t.due(test, x.car(0), want ? 1 : 0);
    }

    private static void chains() {
        t.says("Term I", "TEST: BOTH { or BOTH }. BOTH: FACT { and FACT }. FACT: not FACT; [ TEST ] ; all; SUM SIGN "
            + "SUM, SIGN < or > or = .");
        holds("all", true);
        holds("not all", false);
        holds("[all]", true);
        holds("1<2", true);
        holds("2<2", false);
        holds("3<2", false);
        holds("3>2", true);
        holds("2>2", false);
        holds("1>2", false);
        holds("2=2", true);
        holds("1=2", false);
        holds("3=2", false);
        holds("all or not all and not all", true);
        holds("not all and not all or all", true);
        holds("[all or not all]and not all", false);
        holds("not all or not all or all", true);
        holds("not all or not all or not all", false);
        holds("all and all and not all", false);
        holds("all and all and all", true);
        // not is for its FACT alone.
        holds("not not all", true);
        holds("not all or all", true);
        holds("not[all or all]", false);
        holds("not not all and not all", false);
        holds("not 1=2 and 1=1", true);
        // A chain as long as the tape can hold, of each sort.
        String start = FIRST + "car ";
        t.good(2, start + Texts.times((1596 - start.length()) / 7, "all or ") + "all;");
        t.good(2, start + Texts.times((1596 - start.length()) / 8, "all and ") + "all;");
        t.due("none of a long chain", Tester.made(start + Texts.times(150, "1=2 or ") + "1=2;").car(0), 0);
        t.due("the last of a long chain", Tester.made(start + Texts.times(150, "1=2 or ") + "all;").car(0), 1);
        t.due("all but the last of a long chain", Tester.made(start + Texts.times(150, "all and ") + "1=2;").car(0), 0);
        t.says("Term I", "SUM: PRODUCT { + or - PRODUCT }. PRODUCT: PART { * or / PART }.");
        t.due("a long sum", Tester.made(start + Texts.times(700, "1+") + "1=701;").car(0), 1);
        t.due("a long difference", Tester.made(start + "700-" + Texts.times(700, "1-") + "1=0-1;").car(0), 1);
        t.due("a long product", Tester.made(start + Texts.times(700, "1*") + "7=7;").car(0), 1);
        t.due("a long quotient", Tester.made(start + "7/" + Texts.times(700, "1/") + "1=7;").car(0), 1);
        t.bad(1, FIRST + "car 1+|+1=2;");
        t.bad(1, FIRST + "car 1+|=2;");
        t.bad(1, FIRST + "car |+1=2;");
        t.bad(1, FIRST + "car |-1=2;");
        t.bad(1, FIRST + "car 1*|/1=2;");
    }

    private static void digits() {
        t.says("Term I", "PART: N (1 to 4 digits);");
        holds("0=0000", true);
        holds("1=0001", true);
        holds("9999>9998", true);
        holds("9999<9999", false);
        holds("9999+1=10*1000", true);
        t.bad(1, FIRST + "car 9999|9>1;");
        t.bad(1, FIRST + "car 0000|0=0;");
        t.bad(1, FIRST + "car 1000|00=0;");
        t.bad(1, FIRST + "car |=0;");
    }

    private static void parts() {
        t.says("Term I", "second; day; ( SUM ) ; min ( SUM , SUM ) ; max ( SUM , SUM ) ; in car: phase; in red, learns: "
            + "waited; calm; pace; trusts; in red: gap; reds.");
        String[] words = {"second", "day", "phase", "waited", "calm", "pace", "trusts", "gap", "reds", "number", "went", "harm"};
        String car = "second day phase";
        String learns = "second day waited calm pace trusts";
        String red = learns + " gap reds";
        for (String word : words) {
            partOf("car", word, car, "=0");
            partOf("red", word, red, "=0");
            partOf("learns", word, learns, "");
        }
        holds("min(3,4)=3", true);
        holds("min(4,3)=3", true);
        holds("max(3,4)=4", true);
        holds("max(4,3)=4", true);
        holds("min(3,3)=max(3,3)", true);
        holds("min(0-1,0)=0-1", true);
        holds("max(0-1,0)=0", true);
        t.bad(1, FIRST + "learns (|);");
        t.bad(1, FIRST + "learns (1|,2);");
        t.bad(1, FIRST + "learns min(1|);");
        t.bad(1, FIRST + "learns max(1,2|,3);");
        t.bad(1, FIRST + "learns min|;");
        t.bad(1, FIRST + "learns max|[1,2];");
        t.bad(1, FIRST + "learns |kind 0;");
        t.says("Term I", "(The SECOND, in learns that in which the WALKER came; the DAY;");
        PressAndWait x = Tester.made(FIRST + "car second=0 or second=319 or day=1 and second=5;");
        t.due("SECOND 0", x.car(0), 1);
        t.due("SECOND 1", x.car(1), 0);
        t.due("SECOND 318", x.car(318), 0);
        t.due("SECOND 319", x.car(319), 1);
        t.due("on DAY 0", x.car(5), 0);
        x.days(1);
        t.due("on DAY 1", x.car(5), 1);
        x.days(1);
        t.due("on DAY 2", x.car(5), 0);
        int[] seconds = {0, 1, 199};
        for (int second : seconds) {
            x = Tester.made(FIRST + Texts.kind("k", 0, 20, 0) + Texts.come("k", second) + "learns second-" + second + "+3;");
            x.days(1);
            t.due("learns by SECOND " + second, x.kind(0, 2), 3);
        }
        x = Tester.made(FIRST + "car day=999;");
        t.due("on", Tester.on(x, Tester.image(998, 0, 6)), true);
        t.due("no car on DAY 998", x.car(0), 0);
        x.days(1);
        t.due("a car on DAY 999", x.car(0), 1);
    }

    private static void partOf(String statement, String word, String allowed, String tail) {
        boolean can = (" " + allowed + " ").contains(" " + word + " ");
        if (can) {
            t.good(2, FIRST + statement + " " + word + tail + ";");
        } else {
            t.bad(1, FIRST + statement + " |" + word + tail + ";");
        }
    }

    private static void phase() {
        t.says("Term I", "the phase: what the SECOND leaves by the cycle;");
        for (int cycle : new int[] {10, 11, 119, 120}) {
            PressAndWait x = Tester.made(Texts.first(cycle, 1, 0, 0) + "car phase=0;");
            PressAndWait y = Tester.made(Texts.first(cycle, 1, 0, 0) + "car phase=" + (cycle - 1) + ";");
            PressAndWait z = Tester.made(Texts.first(cycle, 1, 0, 0) + "car phase>" + (cycle - 1) + ";");
            for (int s = 0; s < 320; s++) {
                t.due("cycle " + cycle + ", first of it, car(" + s + ")", x.car(s), s % cycle == 0 ? 1 : 0);
                t.due("cycle " + cycle + ", last of it, car(" + s + ")", y.car(s), s % cycle == cycle - 1 ? 1 : 0);
                t.due("cycle " + cycle + ", beyond it, car(" + s + ")", z.car(s), 0);
            }
        }
    }

    private static void goesAt(String text, int second) {
        t.due(text, Tester.made(text).walker(0, 2), second);
    }

    private static void gap() {
        t.says("Term I", "how many SECONDS no car comes, from this one on, 20 at most;");
        String start = Texts.first(120, 1, 2, 0) + Texts.kind("k", 0, 20, 0);
        String early = start + Texts.come("k", 20) + "car second=100;";
        goesAt(early + "red gap=0;", 100);
        goesAt(early + "red gap=1;", 99);
        goesAt(early + "red gap=19;", 81);
        goesAt(early + "red gap=20;", 20);
        goesAt(early + "red gap=20 and second>79;", 80);
        goesAt(early + "red gap=20 and second>80;", 101);
        goesAt(early + "red gap>20;", -1);
        goesAt(early + "red gap<0;", -1);
        // The SECONDS behind the DAY count: from 299 on the 20th is 318.
        String late = start + Texts.come("k", 199);
        goesAt(late + "car second=318;red second=299 and gap=19;", 299);
        goesAt(late + "car second=319;red second=299 and gap=20;", 299);
        goesAt(late + "car second=300;red second=299 and gap=1;", 299);
        goesAt(late + "car second=299;red second=299 and gap=0;", 299);
        goesAt(late + "red second=299 and gap=20;", 299);
        goesAt(late + "car all;red gap=0;", 199);
        goesAt(late + "car all;red gap>0;", -1);
    }

    private static void reds() {
        t.says("Term I", "how many have gone at red on this DAY.)");
        String start = Texts.first(120, 1, 2, 0) + Texts.kind("k", 0, 20, 0) + Texts.twelve("k", 20);
        PressAndWait x = Tester.made(start + "red all;");
        t.due("all go", x.day(1), 12);
        // In one SECOND one more is counted behind each, by numbers.
        for (int n = 0; n <= 12; n++) {
            x = Tester.made(start + "red reds<" + n + ";");
            t.due("reds<" + n, x.day(1), n);
            t.due("the last who goes", x.walker(11, 4), n == 12 ? 1 : 0);
        }
        x = Tester.made(start + "red second>19+reds;");
        for (int w = 0; w < 12; w++) {
            t.due("one more each SECOND: " + w, x.walker(w, 2), 20 + w);
        }
        // Each DAY begins with none.
        x = Tester.made(start + "red reds=0;");
        t.due("one goes", x.day(1), 1);
        x.days(1);
        t.due("one goes on the next DAY", x.day(1), 1);
        // Who crosses is not counted.
        x = Tester.made(Texts.first(120, 30, 0, 0) + Texts.kind("k", 0, 10, 0) + Texts.come("k", 0, 40) + "red reds>0;");
        t.due("none has gone", x.day(1), 0);
    }

    private static void waitedAndKind() {
        t.says("Term I", "of a WALKER how many SECONDS he has waited; of his KIND calm, pace, how it trusts;");
        String start = Texts.first(120, 1, 2, 0) + Texts.kind("z", 0, 1, 0) + Texts.kind("k", 99, 20, 9);
        String first = start + Texts.come("k", 7);
        goesAt(first + "red waited=0;", 7);
        goesAt(first + "red waited=1;", 8);
        goesAt(first + "red waited=292;", 299);
        goesAt(first + "red waited=293;", -1);
        goesAt(first + "red waited=calm;", 106);
        goesAt(first + "red waited=pace;", 27);
        goesAt(first + "red waited=trusts;", 16);
        goesAt(start + Texts.come("k", 199) + "red waited=100;", 299);
        goesAt(start + Texts.come("k", 0) + "red waited=299;", 299);
        PressAndWait x = Tester.made(first + "red waited=trusts;");
        x.trust(1, 0);
        t.due("how it trusts now", x.walker(0, 2), 7);
    }

    private static void fromTheLeft() {
        t.says("Term I", "All from the left on;");
        holds("9-3-2=4", true);
        holds("9-3+2=8", true);
        holds("100/10/5=2", true);
        holds("100/10*5=50", true);
        holds("7*3/2=10", true);
        holds("7/2*3=9", true);
        holds("2+3*4-5=9", true);
        holds("(2+3)*(4-5)=0-5", true);
        // What is held on the way is held: the same the other way round is another.
        holds("9999*9999-9999*9999+1=1", true);
        holds("0-9999*9999+9999*9999+9999*9999=9999*9999", true);
        holds("1000*1000+1-1=1000*1000-1", true);
        holds("1000*1000-1+1=1000*1000", true);
    }

    private static void division() {
        t.says("Term I", "/ gives the greatest whole number not above, by 0 it gives 0;");
        holds("7/7=1", true);
        holds("6/7=0", true);
        holds("0/7=0", true);
        holds("8/7=1", true);
        holds("(0-1)/7=0-1", true);
        holds("(0-7)/7=0-1", true);
        holds("(0-8)/7=0-2", true);
        holds("1/(0-7)=0-1", true);
        holds("7/(0-7)=0-1", true);
        holds("8/(0-7)=0-2", true);
        holds("(0-1)/(0-7)=0", true);
        holds("(0-8)/(0-7)=1", true);
        holds("(0-1)/9999=0-1", true);
        holds("9999*9999/1=1000*1000", true);
        holds("(0-9999*9999)/(0-1)=1000*1000", true);
        holds("7/0=0", true);
        holds("(0-7)/0=0", true);
        holds("0/0=0", true);
        holds("7/(3-3)+5=5", true);
        holds("9999*9999/0=0", true);
    }

    private static void held() {
        t.says("Term I", "each sum, difference, product above 10 to the 6 is that, below -10 to the 6 likewise.");
        String most = "1000*1000";
        holds(most + "=9999*100+100", true);
        holds("999*1001=" + most + "-1", true);
        holds("9999*100+99=" + most + "-1", true);
        holds("9999*100+100+1=" + most, true);
        holds("1001*1000=" + most, true);
        holds("9999*9999=" + most, true);
        holds("9999*9999*9999*9999=" + most, true);
        holds("0-" + most + "=0-9999*100-100", true);
        holds("0-9999*100-99=0-" + most + "+1", true);
        holds("0-9999*100-101=0-" + most, true);
        holds("(0-1001)*1000=0-" + most, true);
        holds("(0-9999)*9999=0-" + most, true);
        holds("(0-9999)*9999*9999=0-" + most, true);
        holds("(0-9999)*9999*(0-1)=" + most, true);
        holds("0-" + most + "-" + most + "=0-" + most, true);
        holds(most + "-(0-" + most + ")=" + most, true);
        holds(most + "+" + most + "-" + most + "=0", true);
        holds(most + "*(0-" + most + ")=0-" + most, true);
        holds("(0-" + most + ")*(0-" + most + ")=" + most, true);
    }

    private static void names() {
        t.says("Term I", "NAMES: 1 to 6 letters, no OWN WORD, unlike ones (of all sorts), told ahead of where they are "
            + "asked.");
        t.good(2, FIRST + "kind a calm 0 pace 1 trusts 0;");
        t.good(2, FIRST + "kind zzzzzz calm 0 pace 1 trusts 0;");
        t.bad(1, FIRST + "kind zzzzzz|z calm 0 pace 1 trusts 0;");
        t.bad(1, FIRST + "kind |");
        t.bad(1, FIRST + "kind|; calm 0 pace 1 trusts 0;");
        t.good(3, KIND + "comes a is k at 1;");
        t.good(3, KIND + "comes zzzzzz is k at 1;");
        t.bad(1, KIND + "comes zzzzzz|z is k at 1;");
        t.bad(1, KIND + "comes |1 is k at 1;");
        t.bad(1, KIND + "comes w is |1 at 1;");
        t.bad(1, KIND + "comes w is kkkkkk|k at 1;");
        // Letters are a to z: what stands beside them in the table of bytes is none.
        for (char sign : new char[] {'a' - 1, 'z' + 1, 'A', 'Z', '_', (char) 228}) {
            t.bad(1, FIRST + "kind |" + sign + " calm 0 pace 1 trusts 0;");
            t.bad(1, FIRST + "kind a|" + sign + " calm 0 pace 1 trusts 0;");
        }
        // Unlike ones, of all sorts; what begins alike is unlike.
        t.bad(3, KIND + "kind |k calm 0 pace 1 trusts 0;");
        t.bad(3, KIND + "comes |k is k at 1;");
        t.bad(3, KIND + "comes w is k at 1;comes |w is k at 1;");
        t.bad(3, KIND + "comes w is k at 1;kind |w calm 0 pace 1 trusts 0;");
        t.good(4, KIND + "kind kk calm 0 pace 1 trusts 0;comes kkk is kk at 1;");
        t.good(4, FIRST + "kind abcdef calm 0 pace 1 trusts 0;kind abcdeg calm 0 pace 1 trusts 0;comes abcde is abcdef at 1;");
        // The last of all that can be there is known, too.
        String full = FIRST + Texts.kinds(6, 0, 1, 0) + Texts.come("kf", 1, 1, 1, 1, 1, 1, 1, 1, 1, 1, 1);
        t.bad(3, full + "comes |kf is ka at 1;");
        t.bad(3, full + "comes |wk is ka at 1;");
        t.good(19, full + "comes wl is ka at 1;");
        // Told ahead.
        t.bad(3, FIRST + "comes w is |k at 1;kind k calm 0 pace 1 trusts 0;");
        t.bad(3, KIND + "comes w is |kk at 1;");
        t.bad(3, KIND + "comes w is |w at 1;");
        // A text that had a FAULT leaves no names behind.
        PressAndWait x = new PressAndWait();
        t.due("with a fault", Tester.crossing(x, KIND + "comes w is k at 1;x"), -1);
        t.due("the same names", Tester.crossing(x, KIND + "comes w is k at 1;"), 3);
        t.due("and again", Tester.crossing(x, KIND + "comes w is k at 1;"), 3);
        t.due("a name of the crossing ahead", Tester.crossing(x, FIRST + "comes w is k at 1;"), -1);
        t.due("it is unknown", x.fault(0), 3);
    }

    private static void ownWords() {
        t.says("Term I", "OWN WORDS: cycle, green, rule, least, kind, calm, pace, trusts, comes, is, at, car, red, "
            + "learns, away, second, day, phase, waited, gap, reds, number, went, harm, or, and, not, all, min, max.");
        t.due("thirty of them", Texts.OWN_WORDS.length, 30);
        for (String word : Texts.OWN_WORDS) {
            t.bad(1, FIRST + "kind |" + word + " calm 0 pace 1 trusts 0;");
            t.bad(1, KIND + "comes |" + word + " is k at 1;");
            t.bad(1, KIND + "comes w is |" + word + " at 1;");
            // One letter more is a NAME, one letter less, too, unless that is another OWN WORD.
            if (word.length() < 6) {
                t.good(2, FIRST + "kind " + word + "q calm 0 pace 1 trusts 0;");
            }
            String less = word.substring(0, word.length() - 1);
            if (!less.equals("red")) {
                t.good(2, FIRST + "kind " + less + " calm 0 pace 1 trusts 0;");
            }
        }
        for (String word : new String[] {"first", "last", "often", "total", "most"}) {
            t.good(3, FIRST + "kind " + word + " calm 0 pace 1 trusts 0;comes w is " + word + " at 1;");
        }
    }

    private static void blanks() {
        t.says("Term I", "Blanks (10, 32) are where one likes (words and numbers side by side need one).");
        t.good(1, "cycle 20\ngreen\n6 rule  0\n\nleast 5;");
        t.good(1, " \n\n cycle 20 green 6 rule 0 least 5 \n ; \n\n ");
        t.good(2, FIRST + "car\n[\n1\n+\n2\n<\nmin\n(\n3\n,\n4\n)\n]\n;");
        t.good(2, FIRST + "car[1+2<min(3,4)]and(1)=(1)or[all];");
        t.good(2, FIRST + "car not[all]or[all];");
        t.good(1, FIRST + Texts.times(1568, " "));
        for (int other : new int[] {0, 9, 11, 12, 13, 31, 33, 160}) {
            t.bad(1, FIRST + "|" + (char) other);
            t.bad(1, "cycle|" + (char) other + "20 green 6 rule 0 least 5;");
        }
        t.bad(1, "|cyclegreen 20 6 rule 0 least 5;");
        t.bad(1, "cycle|20 green 6 rule 0 least 5;");
        t.bad(1, "cycle 20|green 6 rule 0 least 5;");
        t.bad(1, FIRST + "car 1=1|or all;");
        t.bad(1, FIRST + "car |notall;");
        t.bad(1, FIRST + "car not|1=1;");
        t.bad(1, FIRST + "car 1=2 |2;");
    }

    private static void firstFault() {
        t.says("Term I", "FAULTS, the first along the text:");
        t.bad(2, "cycle |9 green 0 rule 3 x");
        t.bad(2, "cycle 20 green |20 rule 3 x");
        t.bad(1, "cycle 20 |x green 99");
        t.bad(3, KIND + "kind |k calm 100 pace 0 x");
        t.bad(2, FIRST + "kind k calm |100 pace 0;kind k");
        t.bad(1, FIRST + "kind k |x calm 100");
        t.bad(3, KIND + "comes w is |x at 200;");
        t.bad(2, KIND + "comes w is k at |200;comes w is x");
        t.bad(4, FIRST + "learns ((((((|((x");
        t.bad(1, FIRST + "learns (((((|x((((");
        t.bad(5, FIRST + "car all;|car ((((((((");
        t.bad(1, FIRST + "car |x;car all;");
        t.bad(1, FIRST + Texts.times(78, "away 1;") + "|x;x;");
        t.bad(2, FIRST + Texts.times(78, "away 1;") + "away |101;away 1;");
        // A number of five digits is none that could be wrong in its size.
        t.bad(1, "cycle 9999|9 green 0;");
        t.bad(1, FIRST + "kind k calm 1000|0;");
    }

    private static void wrongByte() {
        t.says("Term I", "1 the first byte with which no such text goes on (words and numbers whole, at their first "
            + "byte; where a NAME is asked, an OWN WORD so, a 7th letter at itself; where a number is asked, a 5th "
            + "digit at itself;");
        t.bad(1, "|cycl 20");
        t.bad(1, "|cycles 20");
        t.bad(1, "|20 cycle");
        t.bad(1, "cycle |x20");
        t.bad(1, "cycle 20 |greem 6");
        t.bad(1, "cycle 20 |2020 green");
        t.bad(1, FIRST + "|kinds k");
        t.bad(1, FIRST + "|1234");
        t.bad(1, FIRST + "car second |1234567;");
        t.bad(1, FIRST + "car second |abcdefgh;");
        t.bad(1, FIRST + "kind |kind");
        t.bad(1, FIRST + "kind |second calm 0");
        t.bad(1, FIRST + "kind second|s calm 0");
        t.bad(1, FIRST + "kind abcdef|gh calm 0");
        t.bad(1, KIND + "comes abcdef|g is k");
        t.bad(1, KIND + "comes w is abcdef|g");
        // A 7th letter is that only where a NAME is asked, a 5th digit only where a number is.
        t.bad(1, FIRST + "|abcdefg k");
        t.bad(1, "cycle |abcdefg");
        t.bad(1, FIRST + "kind |12345");
        t.bad(1, FIRST + "|12345");
        t.bad(1, "cycle 1234|5");
        t.bad(1, "cycle 20 green 0006|0 rule");
        t.bad(1, FIRST + "away 0001|1;");
        t.bad(1, FIRST + "learns 1234|5;");
        t.bad(1, FIRST + "learns 1+1234|5;");
        t.bad(1, FIRST + "learns 1 |12345;");
        t.bad(1, "cycle 0020 green 0006 rule 0000 least 0005 |5;");
    }

    /** Each text that ends ahead of its end, cut behind a word, a number, a sign, or among blanks. */
    private static void endsTooSoon() {
        t.says("Term I", "at the text's length, if it ends too soon);");
        String[] statements = {"cycle 20 green 6 rule 0 least 5 ;", "kind k calm 1 pace 2 trusts 3 ;",
            "comes w is k at 7 ;", "car not [ all or 1 + 2 < 3 ] and all ;", "red min ( 1 , 2 * 3 ) = max ( 4 , 5 ) ;",
            "learns ( 1 - 2 ) / 3 ;", "away 7 ;"};
        StringBuilder whole = new StringBuilder();
        for (String statement : statements) {
            String[] pieces = statement.split(" ");
            StringBuilder text = new StringBuilder(whole);
            for (int k = 0; k + 1 < pieces.length; k++) {
                text.append(pieces[k]);
                t.bad(1, text + "|");
                t.bad(1, text + " \n|");
                text.append(' ');
            }
            whole.append(statement);
        }
        t.good(7, whole.toString());
        t.bad(1, "|");
        t.bad(1, " |");
        t.bad(1, Texts.times(1600, " ") + "|");
    }

    private static void wrongNumber() {
        t.says("Term I", "2 a number that can't be (a green not below the cycle, too), at it;");
        t.bad(2, "cycle |0009 green");
        t.bad(2, "cycle |0121 green");
        t.bad(2, "cycle  \n |9");
        t.bad(2, "cycle 11 green |11");
        t.bad(2, "cycle 11 green |12");
        t.good(1, "cycle 11 green 10 rule 0 least 0;");
        t.bad(2, "cycle 61 green |61");
        t.bad(2, "cycle 10 green 1 rule |3");
        t.bad(2, "cycle 10 green 1 rule |9999");
        t.bad(2, "cycle 10 green 1 rule 0 least |100");
        t.bad(2, FIRST + "kind k calm |100");
        t.bad(2, FIRST + "kind k calm 0 pace |0");
        t.bad(2, FIRST + "kind k calm 0 pace |0000 trusts");
        t.bad(2, FIRST + "kind k calm 0 pace |21");
        t.bad(2, FIRST + "kind k calm 0 pace 1 trusts |10");
        t.bad(2, KIND + "comes w is k at |200");
        t.bad(2, FIRST + "away |101");
    }

    private static void wrongName() {
        t.says("Term I", "3 a NAME to be given that is there already, one that is none of what is asked, at it;");
        t.bad(3, KIND + "kind  \n|k");
        t.bad(3, KIND + "comes  \n|k");
        t.bad(3, KIND + "comes w is  \n|v");
        t.bad(3, KIND + "comes w is k at 1;comes v is |w at 1;");
        t.bad(3, FIRST + Texts.kinds(5, 0, 1, 0) + "kind |ka");
        t.bad(3, FIRST + Texts.kinds(5, 0, 1, 0) + "kind |ke");
        t.bad(3, KIND + Texts.come("k", 1, 1, 1, 1, 1, 1, 1, 1, 1, 1, 1) + "comes |wa is k at 1;");
        t.bad(3, KIND + "comes w is |kx");
        t.bad(3, FIRST + "kind kx calm 0 pace 1 trusts 0;comes w is |k");
    }

    private static void tooDeep() {
        t.says("Term I", "4 the 7th of ( [ not that is open at once (not until its FACT ends), at it;");
        t.good(2, FIRST + "learns ((((((1))))));");
        t.bad(4, FIRST + "learns ((((((|(1)))))));");
        t.good(2, FIRST + "car [[[[[[all]]]]]];");
        t.bad(4, FIRST + "car [[[[[[|[all]]]]]]];");
        t.good(2, FIRST + "car not not not not not not all;");
        t.bad(4, FIRST + "car not not not not not not |not all;");
        t.good(2, FIRST + "learns min(max(min(max(min(max(1,2),2),2),2),2),2);");
        t.bad(4, FIRST + "learns min(max(min(max(min(max(min|(1,2),2),2),2),2),2),2);");
        t.bad(4, FIRST + "learns min(2,max(2,min(2,max(2,min(2,max(2,min  |(1,2)))))));");
        // One of each sort, in turn.
        t.good(2, FIRST + "car not[not[not(1)=1]];");
        t.bad(4, FIRST + "car not[not[not(|(1))=1]];");
        t.good(2, FIRST + "car [[[not((1))=1]]];");
        t.bad(4, FIRST + "car [[[not((|(1)))=1]]];");
        t.good(2, FIRST + "car [[[[[not 1=1]]]]];");
        t.bad(4, FIRST + "car [[[[[not 1=|(1)]]]]];");
        t.bad(4, FIRST + "car [[[[[[|not 1=1]]]]]];");
        t.bad(4, FIRST + "car not not not not not not |[all];");
        t.bad(4, FIRST + "car not not not not not not 1=2+|(1);");
        // What has been closed is open no more.
        t.good(2, FIRST + "learns ((((((1))))))+((((((1))))))*((((((1))))));");
        t.good(2, FIRST + "car [[[[[[all]]]]]] or [[[[[[all]]]]]] and [[[[[[all]]]]]];");
        t.good(2, FIRST + "car not not not not not not all or not not not not not not all and not not not not not not 1=1;");
        t.good(2, FIRST + "car not not not not not 1=(1)and not not not not not(1)=1;");
        t.good(2, FIRST + "car [not all and not all and not all and not all and not all and not all and not all];");
        t.bad(4, FIRST + "learns 1+(2+(3+(4+(5+(6+(7+|(8;");
        t.good(2, FIRST + "learns (1)+(2)+(3)+(4)+(5)+(6)+(7)+(8);");
        t.good(2, FIRST + "car (((((1)))))=(((((1)))))and[[[[[(1)=(1)]]]]];");
    }

    private static void tooMany() {
        t.says("Term I", "5 one too many of a kind (a second car, red, learns, too), an 81st STATEMENT (whatever stands "
            + "there), at its first byte.");
        String kinds = FIRST + Texts.kinds(6, 0, 1, 0);
        t.bad(5, kinds + "|kind");
        t.bad(5, kinds + " \n |kind ka calm 100;");
        t.bad(5, kinds + "away 1;|kind x calm 0 pace 1 trusts 0;");
        String walkers = KIND + Texts.twelve("k", 1);
        t.bad(5, walkers + "|comes");
        t.bad(5, walkers + "away 1;\n|comes a is x at 200;");
        t.bad(5, FIRST + "car all; |car");
        t.bad(5, FIRST + "red all; |red");
        t.bad(5, FIRST + "learns 0; |learns");
        String full = FIRST + Texts.times(79, "away 1;");
        t.good(80, full);
        t.good(80, full + " \n\n ");
        for (String rest : new String[] {"away 1;", "away", "x", ";", "7", "cycle", "\t", "(",
            "kind k calm 1 pace 1 trusts 1;"}) {
            t.bad(5, full + "|" + rest);
            t.bad(5, full + " \n|" + rest);
        }
    }
}
