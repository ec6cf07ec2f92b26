/** Promise 10: answers. */
final class AnswersEdgesTest {
    private static final Checks CHECKS = new Checks();

    public static void main(String[] args) {
        CHECKS.test("nothing is drawn", AnswersEdgesTest::nothingDrawn);
        CHECKS.test("a sum of 0, of size 0", AnswersEdgesTest::sizeNought);
        CHECKS.test("one part: z = 0, 1 and 999", AnswersEdgesTest::onePart);
        CHECKS.test("an even sum of odd numbers", () -> answers(9, 5, 1, true));
        CHECKS.test("an odd sum", AnswersEdgesTest::oddSum);
        CHECKS.test("z with the fault 3 and the fault 5", AnswersEdgesTest::faults);
        CHECKS.test("40 parts", AnswersEdgesTest::fortyParts);
        CHECKS.test("all parts, though all but one are left out", AnswersEdgesTest::allButOneLeftOut);
        CHECKS.test("answers changes nothing", AnswersEdgesTest::changesNothing);
        CHECKS.end();
    }

    private static void answers(long seed, int kind, int size, boolean due) {
        CHECKS.due("answers() of seed " + seed + ", kind " + kind,
                Checks.drawn(seed, kind, size).answers(), due);
    }

    private static void nothingDrawn() {
        CarDrawer x = new CarDrawer(1);
        CHECKS.due("answers()", x.answers(), false);
        x.draw(6, 0);
        x.draw(0, -1);
        CHECKS.due("answers() behind refused draws", x.answers(), false);
    }

    private static void sizeNought() {
        for (int kind = 0; kind < 6; kind++) {
            answers(kind, kind, 0, true);
        }
    }

    private static void onePart() {
        answers(663, 1, 1, true);
        answers(5562, 1, 1, false);
        answers(4636, 1, 1, false);
    }

    private static void oddSum() {
        answers(31, 5, 1, false);
        answers(3, 5, 1, false);
        answers(10, 5, 1, true);
    }

    private static void faults() {
        answers(663, 0, 1, true);
        answers(7258, 0, 1, false);
        answers(3, 4, 1, true);
        answers(28, 4, 1, false);
    }

    private static void fortyParts() {
        answers(304, 3, 20, true);
        answers(12, 3, 20, false);
    }

    private static void allButOneLeftOut() {
        CarDrawer x = Checks.drawn(3, 5, 1);
        Checks.say(x, 1L << 44 | 1L << 4);
        CHECKS.due("shorter()", x.shorter(), 1);
        CHECKS.due("the z left", x.part(x.left(0), 3), 204);
        CHECKS.due("answers()", x.answers(), false);
    }

    private static void changesNothing() {
        Twins twins = Twins.shortened();
        twins.asked.answers();
        twins.asked.answers();
        twins.areStillAlike(CHECKS);
    }
}
