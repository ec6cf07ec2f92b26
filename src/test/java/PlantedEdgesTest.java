/** Promise 5: planted. */
final class PlantedEdgesTest {
    private static final Checks CHECKS = new Checks();

    public static void main(String[] args) {
        CHECKS.test("nothing is drawn", PlantedEdgesTest::nothingDrawn);
        CHECKS.test("a what too small", () -> noWhat(-1, -2, Integer.MIN_VALUE));
        CHECKS.test("a what too large", () -> noWhat(3, 4, Integer.MAX_VALUE));
        CHECKS.test("a refused planted changes nothing", PlantedEdgesTest::changesNothing);
        CHECKS.test("a drawing without a fault", PlantedEdgesTest::withoutFault);
        CHECKS.test("a drawing of size 0", PlantedEdgesTest::sizeNought);
        CHECKS.test("the first fault and the last", PlantedEdgesTest::firstAndLastFault);
        CHECKS.test("the fault in part 0 and in part 39", PlantedEdgesTest::firstAndLastPart);
        CHECKS.test("the part with the fault is left out", PlantedEdgesTest::faultLeftOut);
        CHECKS.test("all but the part with the fault are left out", PlantedEdgesTest::onlyTheFaultLeft);
        CHECKS.test("none is left out", PlantedEdgesTest::noneLeftOut);
        CHECKS.end();
    }

    private static void planted(CarDrawer x, int fault, int part, int signature) {
        CHECKS.due("planted(0)", x.planted(0), fault);
        CHECKS.due("planted(1)", x.planted(1), part);
        CHECKS.due("planted(2)", x.planted(2), signature);
    }

    private static void nothingDrawn() {
        planted(new CarDrawer(1), 0, -1, 0);
    }

    private static void noWhat(int... whats) {
        CarDrawer empty = new CarDrawer(1);
        CarDrawer x = Checks.drawn(3, 4, 2);
        for (int what : whats) {
            CHECKS.due("planted(" + what + ")", x.planted(what), -2);
            CHECKS.due("planted(" + what + ") of nothing", empty.planted(what), -2);
        }
    }

    private static void changesNothing() {
        Twins twins = Twins.shortened();
        for (int what : new int[] {-1, 3, Integer.MIN_VALUE, Integer.MAX_VALUE}) {
            twins.asked.planted(what);
        }
        twins.areStillAlike(CHECKS);
    }

    private static void withoutFault() {
        planted(Checks.drawn(2, 4, 2), 0, -1, 12);
    }

    private static void sizeNought() {
        for (int kind = 0; kind < 6; kind++) {
            planted(Checks.drawn(3, kind, 0), 0, -1, 1);
        }
    }

    private static void firstAndLastFault() {
        planted(Checks.drawn(1, 4, 2), 1, 0, 63);
        planted(Checks.drawn(3, 4, 2), 5, 3, 58);
    }

    private static void firstAndLastPart() {
        planted(Checks.drawn(2726, 4, 20), 1, 0, 63);
        planted(Checks.drawn(499, 4, 20), 4, 39, 31);
    }

    private static void faultLeftOut() {
        CarDrawer x = Checks.drawn(1, 4, 2);
        Checks.say(x, -1L);
        x.shorter();
        CHECKS.due("part(0, 4)", x.part(0, 4), 0);
        planted(x, 1, 0, 1);
    }

    private static void onlyTheFaultLeft() {
        CarDrawer x = Checks.drawn(3, 4, 2);
        Checks.say(x, 0xffff0000ffff0000L);
        CHECKS.due("shorter()", x.shorter(), 1);
        planted(x, 5, 3, 16 + 2);
    }

    private static void noneLeftOut() {
        CarDrawer x = Checks.drawn(3, 4, 2);
        x.shorter();
        planted(x, 5, 3, 58);
    }
}
