/** Promise 8: left. */
final class LeftEdgesTest {
    private static final Checks CHECKS = new Checks();

    public static void main(String[] args) {
        CHECKS.test("nothing is drawn", LeftEdgesTest::nothingDrawn);
        CHECKS.test("a number too small", LeftEdgesTest::tooSmall);
        CHECKS.test("a number too large", LeftEdgesTest::tooLarge);
        CHECKS.test("a refused left changes nothing", LeftEdgesTest::changesNothing);
        CHECKS.test("the only part of size 0", LeftEdgesTest::sizeNought);
        CHECKS.test("none is left out of 40", LeftEdgesTest::noneLeftOut);
        CHECKS.test("all but one are left out of 40", LeftEdgesTest::allButOne);
        CHECKS.test("all but the first are left out of 40", LeftEdgesTest::allButTheFirst);
        CHECKS.test("some are left out: none behind the last left", LeftEdgesTest::someLeftOut);
        CHECKS.end();
    }

    private static void none(CarDrawer x, int... numbers) {
        for (int i : numbers) {
            CHECKS.due("left(" + i + ")", x.left(i), -1);
        }
    }

    private static void nothingDrawn() {
        none(new CarDrawer(1), 0, 1, -1, 39, 40, Integer.MIN_VALUE, Integer.MAX_VALUE);
    }

    private static void tooSmall() {
        none(Checks.drawn(1, 4, 2), -1, -2, -40, Integer.MIN_VALUE);
    }

    private static void tooLarge() {
        CarDrawer x = Checks.drawn(1, 4, 2);
        CHECKS.due("left(3)", x.left(3), 3);
        none(x, 4, 5, 39, 40, 41, Integer.MAX_VALUE);
    }

    private static void changesNothing() {
        Twins twins = Twins.shortened();
        none(twins.asked, -1, 3, 4, 40, Integer.MIN_VALUE, Integer.MAX_VALUE);
        twins.areStillAlike(CHECKS);
    }

    private static void sizeNought() {
        CarDrawer x = Checks.drawn(1, 4, 0);
        CHECKS.due("left(0)", x.left(0), 0);
        none(x, -1, 1);
    }

    private static void noneLeftOut() {
        CarDrawer x = Checks.drawn(12, 1, 20);
        for (int i = 0; i < 40; i++) {
            CHECKS.due("left(" + i + ")", x.left(i), i);
        }
        none(x, -1, 40);
    }

    private static void allButOne() {
        CarDrawer x = Checks.drawn(12, 1, 20);
        Checks.say(x, -1L);
        x.shorter();
        CHECKS.due("left(0)", x.left(0), 39);
        none(x, -1, 1, 38, 39, 40);
    }

    private static void allButTheFirst() {
        CarDrawer x = Checks.drawn(1028, 3, 20);
        Checks.say(x, 0xffff0000ffff0000L);
        x.shorter();
        CHECKS.due("left(0)", x.left(0), 0);
        none(x, -1, 1, 39, 40);
    }

    private static void someLeftOut() {
        CarDrawer x = Checks.drawn(12, 5, 20);
        Checks.say(x, 0x9284008081002000L);
        x.shorter();
        CHECKS.due("left(0)", x.left(0), 30);
        CHECKS.due("left(1)", x.left(1), 31);
        CHECKS.due("left(2)", x.left(2), 33);
        none(x, 3, 30, 33, 39);
    }
}
