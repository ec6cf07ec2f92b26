/** Promise 6: verdict. */
final class VerdictTest {
    private static final Checks CHECKS = new Checks();

    public static void main(String[] args) {
        saidAndTakenBack();
        eachAlone();
        noSignatures();
        beforeAndAcrossDrawings();
        CHECKS.end();
    }

    private static void saidAndTakenBack() {
        CarDrawer x = Checks.drawn(1, 4, 0);
        CHECKS.due("minimal() at first", x.minimal(), false);
        x.verdict(1, true);
        CHECKS.due("minimal() when 1 stays", x.minimal(), true);
        x.verdict(1, true);
        CHECKS.due("minimal() when said twice", x.minimal(), true);
        x.verdict(1, false);
        CHECKS.due("minimal() when taken back", x.minimal(), false);
    }

    private static void eachAlone() {
        for (int bits = 0; bits < 64; bits++) {
            CarDrawer x = Checks.drawn(1, 4, 2);
            x.verdict(bits, true);
            CHECKS.due("minimal() of 63 when " + bits + " stays", x.minimal(), bits == 63);
        }
    }

    private static void noSignatures() {
        int[] none = {-1, -63, 64, 65, 127, Integer.MIN_VALUE, Integer.MAX_VALUE, 64 + 1, -64 + 1};
        CarDrawer x = Checks.drawn(1, 4, 0);
        for (int bits : none) {
            x.verdict(bits, true);
            CHECKS.due("minimal() after verdict(" + bits + ", true)", x.minimal(), false);
        }
        x.verdict(1, true);
        for (int bits : none) {
            x.verdict(bits, false);
            CHECKS.due("minimal() after verdict(" + bits + ", false)", x.minimal(), true);
        }
    }

    private static void beforeAndAcrossDrawings() {
        CarDrawer x = new CarDrawer(1);
        x.verdict(63, true);
        x.draw(4, 2);
        CHECKS.due("minimal() as said before the drawing", x.minimal(), true);
        x.draw(4, 0);
        CHECKS.due("minimal() of 1", x.minimal(), false);
        x.verdict(1, true);
        CHECKS.due("draw does not ask the verdict", x.draw(4, 0), 1);
        CHECKS.due("minimal() of the next one", x.minimal(), true);
    }
}
