/** Promise 3: part. */
final class PartEdgesTest {
    private static final Checks CHECKS = new Checks();
    private static final int[] NO_WHATS = {-1, -4, 5, 6, Integer.MIN_VALUE, Integer.MAX_VALUE};

    public static void main(String[] args) {
        CHECKS.test("nothing is drawn", PartEdgesTest::nothingDrawn);
        CHECKS.test("a part's number too small", () -> noPart(-1, -2, -40, Integer.MIN_VALUE));
        CHECKS.test("a part's number too large", () -> noPart(4, 5, 39, 40, 41, Integer.MAX_VALUE));
        CHECKS.test("a what too small", () -> noWhat(-1, -4, Integer.MIN_VALUE));
        CHECKS.test("a what too large", () -> noWhat(5, 6, Integer.MAX_VALUE));
        CHECKS.test("no part and no what: the first fits", PartEdgesTest::theFirstThatFits);
        CHECKS.test("a refused part changes nothing", PartEdgesTest::changesNothing);
        CHECKS.test("the only part of size 0", PartEdgesTest::onlyPart);
        CHECKS.test("the first part and the last", PartEdgesTest::firstAndLast);
        CHECKS.test("the last of 40 parts", PartEdgesTest::lastOfForty);
        CHECKS.test("what = 4 when none is left out", PartEdgesTest::noneLeftOut);
        CHECKS.test("what = 4 when all but one are left out", PartEdgesTest::allButOneLeftOut);
        CHECKS.test("what = 4 of 40 parts, the first and the last left", PartEdgesTest::leftOfForty);
        CHECKS.test("a part that is not left has its numbers", PartEdgesTest::notLeft);
        CHECKS.end();
    }

    private static void nothingDrawn() {
        CarDrawer x = new CarDrawer(1);
        for (int what = 0; what <= 4; what++) {
            CHECKS.due("part(0, " + what + ")", x.part(0, what), -1);
            CHECKS.due("part(-1, " + what + ")", x.part(-1, what), -1);
            CHECKS.due("part(39, " + what + ")", x.part(39, what), -1);
        }
        for (int what : NO_WHATS) {
            CHECKS.due("part(0, " + what + ")", x.part(0, what), -1);
        }
    }

    /** Of four PARTS. */
    private static void noPart(int... numbers) {
        CarDrawer x = Checks.drawn(1, 4, 2);
        for (int i : numbers) {
            for (int what = 0; what <= 4; what++) {
                CHECKS.due("part(" + i + ", " + what + ")", x.part(i, what), -1);
            }
        }
    }

    private static void noWhat(int... whats) {
        CarDrawer x = Checks.drawn(1, 4, 2);
        for (int what : whats) {
            for (int i = 0; i < 4; i++) {
                CHECKS.due("part(" + i + ", " + what + ")", x.part(i, what), -2);
            }
        }
    }

    private static void theFirstThatFits() {
        CarDrawer x = Checks.drawn(1, 4, 2);
        for (int what : NO_WHATS) {
            CHECKS.due("part(-1, " + what + ")", x.part(-1, what), -1);
            CHECKS.due("part(4, " + what + ")", x.part(4, what), -1);
        }
    }

    private static void changesNothing() {
        Twins twins = Twins.shortened();
        for (int what : NO_WHATS) {
            twins.asked.part(0, what);
            twins.asked.part(-1, what);
            twins.asked.part(5, what);
        }
        twins.asked.part(-1, 0);
        twins.asked.part(5, 4);
        twins.areStillAlike(CHECKS);
    }

    private static void onlyPart() {
        CarDrawer x = Checks.drawn(9, 2, 0);
        for (int what = 0; what < 4; what++) {
            CHECKS.due("part(0, " + what + ")", x.part(0, what), 0);
        }
        CHECKS.due("part(0, 4)", x.part(0, 4), 1);
        CHECKS.due("part(1, 0)", x.part(1, 0), -1);
    }

    private static void part(CarDrawer x, int i, long... due) {
        for (int what = 0; what < due.length; what++) {
            CHECKS.due("part(" + i + ", " + what + ")", x.part(i, what), due[what]);
        }
    }

    private static void firstAndLast() {
        CarDrawer x = Checks.drawn(1, 4, 2);
        part(x, 0, 1, 1204, 38, 34, 1);
        part(x, 3, 0, 186, 12, 890, 1);
    }

    private static void lastOfForty() {
        CarDrawer x = Checks.drawn(12, 2, 20);
        part(x, 39, 3, 359, 41, 694, 1);
        CHECKS.due("part(40, 0)", x.part(40, 0), -1);
    }

    private static void noneLeftOut() {
        CarDrawer x = Checks.drawn(12, 5, 20);
        x.shorter();
        for (int i = 0; i < 40; i++) {
            CHECKS.due("part(" + i + ", 4)", x.part(i, 4), 1);
        }
    }

    private static void allButOneLeftOut() {
        CarDrawer x = Checks.drawn(1, 2, 20);
        Checks.say(x, -1L);
        x.shorter();
        for (int i = 0; i < 28; i++) {
            CHECKS.due("part(" + i + ", 4)", x.part(i, 4), i == 27 ? 1 : 0);
        }
        CHECKS.due("part(28, 4)", x.part(28, 4), -1);
    }

    private static void faultStays(CarDrawer x, int number) {
        Checks.say(x, 0xffff0000ffff0000L);
        x.shorter();
        for (int i = 0; i < 40; i++) {
            CHECKS.due("part(" + i + ", 4)", x.part(i, 4), i == number ? 1 : 0);
        }
    }

    private static void leftOfForty() {
        faultStays(Checks.drawn(1028, 3, 20), 0);
        faultStays(Checks.drawn(499, 3, 20), 39);
    }

    private static void notLeft() {
        CarDrawer x = Checks.drawn(1, 4, 2);
        Checks.say(x, -1L);
        x.shorter();
        part(x, 0, 1, 1204, 38, 34, 0);
        part(x, 3, 0, 186, 12, 890, 1);
    }
}
