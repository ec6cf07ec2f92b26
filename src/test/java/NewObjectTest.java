/** Promise 1: a new object has no DRAWING, and nothing stays. */
final class NewObjectTest {
    private static final Checks CHECKS = new Checks();

    public static void main(String[] args) {
        long[] seeds = {0, 1, -1, 7, Long.MAX_VALUE, Long.MIN_VALUE};
        for (long seed : seeds) {
            nothingIsDrawn(new CarDrawer(seed));
            nothingStays(seed);
        }
        CHECKS.end();
    }

    private static void nothingIsDrawn(CarDrawer x) {
        for (int what = -1; what <= 5; what++) {
            CHECKS.due("part(0, " + what + ")", x.part(0, what), -1);
        }
        CHECKS.due("letter(0)", x.letter(0), -1);
        CHECKS.due("planted(0)", x.planted(0), 0);
        CHECKS.due("planted(1)", x.planted(1), -1);
        CHECKS.due("planted(2)", x.planted(2), 0);
        CHECKS.due("shorter()", x.shorter(), -3);
        CHECKS.due("left(0)", x.left(0), -1);
        CHECKS.due("minimal()", x.minimal(), false);
        CHECKS.due("answers()", x.answers(), false);
    }

    private static void nothingStays(long seed) {
        for (int kind = 0; kind < 6; kind++) {
            for (int size = 0; size <= 20; size++) {
                CarDrawer x = new CarDrawer(seed);
                int n = x.draw(kind, size);
                CHECKS.due("minimal() of a new one", x.minimal(), false);
                CHECKS.due("shorter() of a new one", x.shorter(), n);
            }
        }
    }
}
