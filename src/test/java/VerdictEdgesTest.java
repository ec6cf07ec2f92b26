/** Promise 6: verdict. */
final class VerdictEdgesTest {
    private static final Checks CHECKS = new Checks();

    public static void main(String[] args) {
        CHECKS.test("a signature too small", () -> noSignature(-1, -2, -63, -64, Integer.MIN_VALUE));
        CHECKS.test("a signature too large", () -> noSignature(64, 65, 127, 128, 1 << 16, Integer.MAX_VALUE));
        CHECKS.test("no signature that ends in the bits of one",
                () -> noSignature(64 + 1, -64 + 1, 128 + 1, Integer.MIN_VALUE + 1));
        CHECKS.test("a verdict on none changes nothing", VerdictEdgesTest::changesNothing);
        CHECKS.test("the smallest signature, 0", VerdictEdgesTest::smallest);
        CHECKS.test("the largest signature, 63", VerdictEdgesTest::largest);
        CHECKS.test("each signature that a row can have, alone", VerdictEdgesTest::eachAlone);
        CHECKS.test("said twice, and taken back", VerdictEdgesTest::saidTwice);
        CHECKS.test("taken back though it never stayed", VerdictEdgesTest::neverStayed);
        CHECKS.test("said when nothing is drawn", VerdictEdgesTest::beforeADrawing);
        CHECKS.test("a verdict leaves what is left", VerdictEdgesTest::leavesTheRest);
        CHECKS.end();
    }

    private static void noSignature(int... none) {
        CarDrawer x = Checks.drawn(1, 4, 0);
        for (int bits : none) {
            x.verdict(bits, true);
            CHECKS.due("minimal() after verdict(" + bits + ", true)", x.minimal(), false);
        }
        Checks.say(x, -1L);
        for (int bits : none) {
            x.verdict(bits, false);
            CHECKS.due("minimal() after verdict(" + bits + ", false)", x.minimal(), true);
        }
    }

    private static void changesNothing() {
        Twins twins = Twins.shortened();
        for (int bits : new int[] {-1, 64, -64, 128, Integer.MIN_VALUE, Integer.MAX_VALUE}) {
            twins.asked.verdict(bits, true);
            twins.asked.verdict(bits, false);
        }
        twins.areStillAlike(CHECKS);
    }

    /** No ROW has the SIGNATURE 0; it stands for no other, and lets no last PART go. */
    private static void smallest() {
        CarDrawer x = Checks.drawn(1, 4, 0);
        x.verdict(0, true);
        CHECKS.due("minimal() when 0 stays", x.minimal(), false);
        x.verdict(1, true);
        CHECKS.due("minimal() when 0 and 1 stay", x.minimal(), true);
        CHECKS.due("shorter() when 0 and 1 stay", x.shorter(), 1);
        x.verdict(0, false);
        CHECKS.due("minimal() when 1 stays", x.minimal(), true);
    }

    private static void largest() {
        CarDrawer x = Checks.drawn(1, 4, 2);
        x.verdict(62, true);
        CHECKS.due("minimal() when 62 stays", x.minimal(), false);
        x.verdict(62, false);
        x.verdict(63, true);
        CHECKS.due("minimal() when 63 stays", x.minimal(), true);
        x.verdict(63, false);
        CHECKS.due("minimal() when 63 is taken back", x.minimal(), false);
    }

    /** Of a single PART: it is minimal if and only if its own SIGNATURE stays. */
    private static void eachAlone() {
        for (int seed = 0; seed < 40; seed++) {
            CarDrawer x = new CarDrawer(seed);
            if (x.draw(seed % 6, 1) == 1) {
                int own = x.planted(2);
                for (int bits = 0; bits < 64; bits++) {
                    x.verdict(bits, true);
                    CHECKS.due("minimal() of " + own + " when " + bits + " stays", x.minimal(), bits == own);
                    x.verdict(bits, false);
                }
            }
        }
    }

    private static void saidTwice() {
        CarDrawer x = Checks.drawn(1, 4, 0);
        x.verdict(1, true);
        x.verdict(1, true);
        CHECKS.due("minimal() when said twice", x.minimal(), true);
        x.verdict(1, false);
        CHECKS.due("minimal() when taken back once", x.minimal(), false);
        x.verdict(1, true);
        CHECKS.due("minimal() when said again", x.minimal(), true);
    }

    private static void neverStayed() {
        CarDrawer x = Checks.drawn(1, 4, 0);
        x.verdict(1, false);
        CHECKS.due("minimal()", x.minimal(), false);
        x.verdict(1, true);
        CHECKS.due("minimal() when it stays", x.minimal(), true);
    }

    private static void beforeADrawing() {
        CarDrawer x = new CarDrawer(1);
        x.verdict(63, true);
        CHECKS.due("shorter()", x.shorter(), -3);
        CHECKS.due("draw(4, 2)", x.draw(4, 2), 4);
        CHECKS.due("minimal()", x.minimal(), true);
    }

    private static void leavesTheRest() {
        CarDrawer x = Checks.drawn(11, 5, 4);
        Checks.say(x, 0x9e9fe76541cc2813L);
        x.shorter();
        Checks.say(x, 0L);
        CHECKS.due("left when nothing stays", Checks.left(x), "0,1,4,");
        Checks.say(x, -1L);
        CHECKS.due("left when all stays", Checks.left(x), "0,1,4,");
    }
}
