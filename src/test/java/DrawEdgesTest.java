/** Promise 2, and the sentences of "Terms" on a DRAWING's KIND, size and number of PARTS. */
final class DrawEdgesTest {
    private static final Checks CHECKS = new Checks();

    public static void main(String[] args) {
        CHECKS.test("a kind too small", () -> refused(new int[] {-1, -6, Integer.MIN_VALUE}, new int[] {0, 1, 20}, -1));
        CHECKS.test("a kind too large", () -> refused(new int[] {6, 7, Integer.MAX_VALUE}, new int[] {0, 1, 20}, -1));
        CHECKS.test("a size too small", () -> refused(new int[] {0, 5}, new int[] {-1, -20, Integer.MIN_VALUE}, -2));
        CHECKS.test("a size too large", () -> refused(new int[] {0, 5}, new int[] {21, 40, Integer.MAX_VALUE}, -2));
        CHECKS.test("no kind and no size: the first fits", DrawEdgesTest::theFirstThatFits);
        CHECKS.test("the first kind and the last", DrawEdgesTest::firstAndLastKind);
        CHECKS.test("a refused draw leaves nothing drawn", DrawEdgesTest::stillNothing);
        CHECKS.test("a refused draw leaves what is drawn", DrawEdgesTest::stillTheSame);
        CHECKS.test("size 0 is one part with 0 for all", DrawEdgesTest::sizeNought);
        CHECKS.test("size 0 draws nothing from the state", DrawEdgesTest::sizeNoughtDrawsNothing);
        CHECKS.test("size 0 has no fault, whatever was there", DrawEdgesTest::sizeNoughtAfterAFault);
        CHECKS.test("size 1 is one part or two", DrawEdgesTest::sizeOne);
        CHECKS.test("size 20 is 20 parts at least", DrawEdgesTest::twenty);
        CHECKS.test("size 20 is 40 parts at most", DrawEdgesTest::forty);
        CHECKS.test("each size: itself to twice itself", DrawEdgesTest::eachSize);
        CHECKS.test("few parts in place of 40", DrawEdgesTest::fewInPlaceOfMany);
        CHECKS.test("40 parts in place of few", DrawEdgesTest::manyInPlaceOfFew);
        CHECKS.test("all parts are left again", DrawEdgesTest::allLeftAgain);
        CHECKS.test("the verdict stays over a draw", DrawEdgesTest::verdictStays);
        CHECKS.end();
    }

    private static void refused(int[] kinds, int[] sizes, int due) {
        CarDrawer x = new CarDrawer(5);
        CarDrawer drawn = Checks.drawn(5, 3, 3);
        for (int kind : kinds) {
            for (int size : sizes) {
                String call = "draw(" + kind + ", " + size + ")";
                CHECKS.due(call, x.draw(kind, size), due);
                CHECKS.due(call + " behind another", drawn.draw(kind, size), due);
            }
        }
    }

    private static void theFirstThatFits() {
        int[] noKinds = {-1, 6, Integer.MIN_VALUE, Integer.MAX_VALUE};
        int[] noSizes = {-1, 21, Integer.MIN_VALUE, Integer.MAX_VALUE};
        refused(noKinds, noSizes, -1);
    }

    private static void firstAndLastKind() {
        CHECKS.due("draw(0, 2)", new CarDrawer(4).draw(0, 2), 4);
        CHECKS.due("draw(5, 2)", new CarDrawer(4).draw(5, 2), 4);
    }

    private static void refuse(CarDrawer x) {
        x.draw(-1, 3);
        x.draw(6, 3);
        x.draw(2, -1);
        x.draw(2, 21);
        x.draw(6, 21);
        x.draw(Integer.MIN_VALUE, Integer.MAX_VALUE);
    }

    private static void stillNothing() {
        Twins twins = Twins.withoutDrawing(8);
        refuse(twins.asked);
        CHECKS.due("shorter()", twins.asked.shorter(), -3);
        CHECKS.due("part(0, 0)", twins.asked.part(0, 0), -1);
        twins.areStillAlike(CHECKS);
    }

    private static void stillTheSame() {
        Twins twins = Twins.shortened();
        refuse(twins.asked);
        CHECKS.due("left", Checks.left(twins.asked), "0,1,4,");
        twins.areStillAlike(CHECKS);
    }

    private static void sizeNought() {
        for (int kind = 0; kind < 6; kind++) {
            CarDrawer x = new CarDrawer(77);
            CHECKS.due("draw(" + kind + ", 0)", x.draw(kind, 0), 1);
            CHECKS.due("parts", Checks.parts(x), "0 0 0 0,");
            CHECKS.due("left", Checks.left(x), "0,");
            CHECKS.due("planted(0)", x.planted(0), 0);
            CHECKS.due("planted(1)", x.planted(1), -1);
        }
    }

    private static void sizeNoughtDrawsNothing() {
        for (int kind = 0; kind < 6; kind++) {
            CarDrawer x = new CarDrawer(1);
            x.draw(kind, 0);
            x.draw(5 - kind, 0);
            x.draw(0, 2);
            CHECKS.due("parts", Checks.parts(x), "1 0 38 34,3 0 38 902,1 1 59 802,0 0 -59 812,");
        }
    }

    private static void sizeNoughtAfterAFault() {
        CarDrawer x = Checks.drawn(3, 4, 2);
        CHECKS.due("planted(0) before", x.planted(0), 5);
        CHECKS.due("planted(1) before", x.planted(1), 3);
        x.draw(4, 0);
        CHECKS.due("planted(0)", x.planted(0), 0);
        CHECKS.due("planted(1)", x.planted(1), -1);
        CHECKS.due("parts", Checks.parts(x), "0 0 0 0,");
    }

    private static void sizeOne() {
        CHECKS.due("draw(5, 1) of seed 1", new CarDrawer(1).draw(5, 1), 1);
        CHECKS.due("draw(5, 1) of seed 0", new CarDrawer(0).draw(5, 1), 2);
    }

    private static void lastPart(long seed, int kind, int number, String due) {
        CarDrawer x = Checks.drawn(seed, kind, 20);
        StringBuilder last = new StringBuilder();
        for (int what = 0; what < 5; what++) {
            last.append(x.part(number, what)).append(' ');
        }
        CHECKS.due("the last part of kind " + kind, last.toString(), due);
        CHECKS.due("none behind it", x.part(number + 1, 0), -1);
        CHECKS.due("the last one left", x.left(number), number);
    }

    private static void twenty() {
        String[] last = {"3 15 8 393 1 ", "2 24 63 384 1 ", "3 194 63 384 1 ", "2 19 63 384 1 ",
            "2 123 63 384 1 ", "6 54 63 384 1 "};
        for (int kind = 0; kind < 6; kind++) {
            CHECKS.due("draw(" + kind + ", 20)", new CarDrawer(156).draw(kind, 20), 20);
            lastPart(156, kind, 19, last[kind]);
        }
    }

    private static void forty() {
        String[] last = {"0 0 22 236 1 ", "1 8 41 694 1 ", "3 359 41 694 1 ", "4 9 41 694 1 ",
            "0 73 41 694 1 ", "5 21 41 694 1 "};
        for (int kind = 0; kind < 6; kind++) {
            CHECKS.due("draw(" + kind + ", 20)", new CarDrawer(12).draw(kind, 20), 40);
            lastPart(12, kind, 39, last[kind]);
        }
    }

    private static void eachSize() {
        for (int size = 1; size <= 20; size++) {
            boolean[] seen = new boolean[41];
            for (int seed = 0; seed < 2000; seed++) {
                int n = new CarDrawer(seed).draw(seed % 6, size);
                CHECKS.due("parts of size " + size + " in range", n >= size && n <= 2 * size, true);
                seen[Math.max(0, Math.min(40, n))] = true;
            }
            for (int n = size; n <= 2 * size; n++) {
                CHECKS.due(n + " parts of size " + size + " come up", seen[n], true);
            }
        }
    }

    private static void fewInPlaceOfMany() {
        CarDrawer x = Checks.drawn(12, 4, 20);
        CHECKS.due("part(39, 0)", x.part(39, 0), 0);
        CHECKS.due("draw(4, 0)", x.draw(4, 0), 1);
        for (int i = 1; i < 40; i++) {
            CHECKS.due("part(" + i + ", 0)", x.part(i, 0), -1);
            CHECKS.due("left(" + i + ")", x.left(i), -1);
        }
        CHECKS.due("text", Checks.text(x), "a 0 0 0\n");
    }

    private static void manyInPlaceOfFew() {
        CarDrawer x = Checks.drawn(12, 4, 0);
        CHECKS.due("draw(4, 20)", x.draw(4, 20), 40);
        CHECKS.due("part(39, 3)", x.part(39, 3), 694);
        CHECKS.due("left(39)", x.left(39), 39);
    }

    private static void allLeftAgain() {
        CarDrawer x = Checks.drawn(1, 2, 20);
        Checks.say(x, -1L);
        CHECKS.due("shorter()", x.shorter(), 1);
        int n = x.draw(2, 20);
        for (int i = 0; i < n; i++) {
            CHECKS.due("left(" + i + ")", x.left(i), i);
            CHECKS.due("part(" + i + ", 4)", x.part(i, 4), 1);
        }
        CHECKS.due("left(" + n + ")", x.left(n), -1);
    }

    private static void verdictStays() {
        CarDrawer x = new CarDrawer(1);
        x.verdict(1, true);
        x.draw(3, 20);
        x.draw(3, 0);
        CHECKS.due("minimal()", x.minimal(), true);
    }
}
