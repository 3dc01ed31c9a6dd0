/** Promises 29 to 32: images, and what was refused. */
public final class ImageTest {
    private static final Tester t = new Tester("ImageTest");
    private static final String TEXT = "cycle 20 green 6 rule 1 least 5;kind kid calm 3 pace 4 trusts 2;"
        + "kind old calm 30 pace 6 trusts 9;comes ann is kid at 0;";

    public static void main(String[] args) {
        images();
        on();
        refusedImages();
        status();
        t.finish();
    }

    private static void octetsAre(PressAndWait x, int... want) {
        for (int k = 0; k < want.length; k++) {
            t.due("octet(" + k + ")", x.octet(k), want[k]);
        }
        t.due("octet(-1)", x.octet(-1), -1);
        t.due("octet(" + want.length + ")", x.octet(want.length), -1);
        t.due("octet(MAX)", x.octet(Integer.MAX_VALUE), -1);
    }

    private static void images() {
        PressAndWait x = new PressAndWait();
        octetsAre(x);
        t.due("image without a crossing", x.image(), 5);
        octetsAre(x, 0, 0, 0, 0, 149);
        Tester.crossing(x, TEXT);
        octetsAre(x, 0, 0, 0, 0, 149);
        t.due("image", x.image(), 7);
        // 101, 52, 156, (468+1) 218, (654+6) 158, (474+2) 225, (675+9) 182.
        octetsAre(x, 0, 0, 1, 6, 2, 9, 182);
        x.rule(2);
        octetsAre(x, 0, 0, 1, 6, 2, 9, 182);
        for (int k = 0; k < 9; k++) {
            x.days(30);
        }
        x.image();
        octetsAre(x, Tester.image(270, 2, 6, 2, 9));
        t.due("the higher byte first", x.octet(0), 1);
        t.due("then the lower", x.octet(1), 14);
    }

    private static void on() {
        PressAndWait x = Tester.made(TEXT);
        x.green(7);
        Tester.see(x, 0, 0, 5);
        t.due("on", Tester.on(x, Tester.image(999, 2, 19, 0, 9)), true);
        int[] has = {20, 2, 1, 999, 2, 19, 1, 0};
        for (int what = 0; what < has.length; what++) {
            t.due("has(" + what + ")", x.has(what), has[what]);
        }
        t.due("kind(0, 2)", x.kind(0, 2), 0);
        t.due("kind(1, 2)", x.kind(1, 2), 9);
        t.due("nothing can be undone", x.undo(), false);
        t.due("the tape is gone", x.feed(0, 0, 0, 0, 0), 20);
        x.end(0);
        t.due("on again", Tester.on(x, Tester.image(0, 0, 1, 9, 0)), true);
        t.due("light(0)", x.light(0), 1);
        t.due("light(1)", x.light(1), 0);
        t.due("no refusal", x.status(5), 0);
        x = Tester.made("cycle 120 green 6 rule 1 least 5;");
        t.due("without KINDS", Tester.on(x, Tester.image(256, 0, 60)), true);
        t.due("DAY", x.has(3), 256);
    }

    private static void refusedImages() {
        PressAndWait x = new PressAndWait();
        t.due("without a crossing", Tester.on(x, Tester.image(0, 0, 0)), false);
        t.due("status(5)", x.status(5), 1);
        x = Tester.made(TEXT);
        x.green(7);
        int[] wrong = Tester.image(3, 0, 5, 1, 1);
        wrong[6] = (wrong[6] + 1) % 251;
        int[][] images = {{}, wrong, Tester.image(1000, 0, 5, 1, 1), Tester.image(65535, 0, 5, 1, 1),
            Tester.image(3, 3, 5, 1, 1), Tester.image(3, 255, 5, 1, 1), Tester.image(3, 0, 0, 1, 1),
            Tester.image(3, 0, 20, 1, 1), Tester.image(3, 0, 255, 1, 1), Tester.image(3, 0, 5, 10, 1),
            Tester.image(3, 0, 5, 1, 10), Tester.image(3, 0, 5, 1), Tester.image(3, 0, 5, 1, 1, 1)};
        int refused = 0;
        for (int[] image : images) {
            t.due("image " + refused, Tester.on(x, image), false);
            refused++;
            t.due("status(5)", x.status(5), refused);
            t.due("DAY", x.has(3), 0);
            t.due("green", x.has(5), 7);
            t.due("ACTS", x.has(7), 1);
            t.due("the tape is gone", x.feed(0, 0, 0, 0, 0), 20);
            x.end(0);
        }
        PressAndWait wide = Tester.made("cycle 120 green 6 rule 1 least 5;");
        t.due("green 61", Tester.on(wide, Tester.image(0, 0, 61)), false);
        // The check itself, where one more byte would still be a byte.
        for (int day = 0; day < 300; day++) {
            int[] image = Tester.image(day, 0, 5, 1, 1);
            if (image[6] + 251 < 256) {
                image[6] += 251;
                t.due("check and 251", Tester.on(x, image), false);
            }
        }
    }

    private static void status() {
        PressAndWait x = new PressAndWait();
        x.end(1);
        x.end(2);
        x.crossing();
        x.see();
        x.rule(1);
        x.green(1);
        x.trust(0, 0);
        x.days(1);
        x.chance(1);
        x.undo();
        x.seed(-1);
        x.on();
        int[] want = {2, 2, 3, 2, 1, 2};
        for (int what = 0; what < 6; what++) {
            t.due("status(" + what + ")", x.status(what), want[what]);
        }
        Tester.crossing(x, TEXT);
        for (int what = 0; what < 6; what++) {
            t.due("status(" + what + ") behind a crossing", x.status(what), want[what]);
        }
        t.due("status(6)", x.status(6), -1);
        t.due("status(-1)", x.status(-1), -1);
    }
}
