/** Promise 1: nothing is drawn, nothing stays. */
final class NewObjectEdgesTest {
    private static final Checks CHECKS = new Checks();
    private static final long[] SEEDS = {0, 1, -1, Long.MIN_VALUE, Long.MAX_VALUE};

    public static void main(String[] args) {
        for (long seed : SEEDS) {
            CHECKS.test("nothing is drawn, seed " + seed, () -> nothingDrawn(new CarDrawer(seed)));
            CHECKS.test("nothing stays, seed " + seed, () -> nothingStays(seed));
        }
        CHECKS.test("nothing is drawn, though every signature stays", NewObjectEdgesTest::allStays);
        CHECKS.test("nothing is drawn behind calls that find nothing", NewObjectEdgesTest::afterAllCalls);
        CHECKS.test("none of the signatures stays at first", NewObjectEdgesTest::noSignatureStays);
        CHECKS.test("one object says nothing of another", NewObjectEdgesTest::twoObjects);
        CHECKS.end();
    }

    private static void nothingDrawn(CarDrawer x) {
        for (int what = 0; what <= 4; what++) {
            CHECKS.due("part(0, " + what + ")", x.part(0, what), -1);
        }
        CHECKS.due("letter(0)", x.letter(0), -1);
        CHECKS.due("planted(0)", x.planted(0), 0);
        CHECKS.due("planted(1)", x.planted(1), -1);
        CHECKS.due("planted(2)", x.planted(2), 0);
        CHECKS.due("shorter()", x.shorter(), -3);
        CHECKS.due("left(0)", x.left(0), -1);
        CHECKS.due("minimal()", x.minimal(), false);
        CHECKS.due("answers()", x.answers(), false);
    }

    private static void nothingStays(long seed) {
        for (int kind = 0; kind < 6; kind++) {
            CarDrawer x = new CarDrawer(seed);
            int n = x.draw(kind, 20);
            CHECKS.due("minimal()", x.minimal(), false);
            CHECKS.due("shorter()", x.shorter(), n);
        }
    }

    private static void allStays() {
        CarDrawer x = new CarDrawer(1);
        Checks.say(x, -1L);
        nothingDrawn(x);
    }

    private static void afterAllCalls() {
        CarDrawer x = new CarDrawer(1);
        x.draw(6, 0);
        x.draw(0, 21);
        x.same(1, 0, 20);
        nothingDrawn(x);
        nothingDrawn(x);
        CHECKS.due("draw(0, 2)", x.draw(0, 2), 4);
        CHECKS.due("parts", Checks.parts(x), "1 0 38 34,3 0 38 902,1 1 59 802,0 0 -59 812,");
    }

    /** A ROW has a bit of a SORT at least, so 60 of the 64 SIGNATURES can come up. */
    private static void noSignatureStays() {
        boolean[] seen = new boolean[64];
        int met = 0;
        for (int seed = 0; seed < 20000 && met < 60; seed++) {
            CarDrawer x = new CarDrawer(seed);
            int n = x.draw(seed % 6, 1 + seed % 4);
            int signature = x.planted(2) & 63;
            if (!seen[signature]) {
                seen[signature] = true;
                met++;
                CHECKS.due("minimal() of " + signature, x.minimal(), false);
                CHECKS.due("shorter() of " + signature, x.shorter(), n);
            }
        }
        CHECKS.due("signatures met", met, 60);
    }

    private static void twoObjects() {
        CarDrawer x = Checks.drawn(1, 4, 2);
        Checks.say(x, -1L);
        CarDrawer y = new CarDrawer(1);
        nothingDrawn(y);
        y.draw(4, 2);
        CHECKS.due("shorter() of the other", y.shorter(), 4);
        CHECKS.due("shorter() of the one", x.shorter(), 1);
    }
}
