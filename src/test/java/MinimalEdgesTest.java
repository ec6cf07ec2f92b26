/** Promise 9: minimal. */
final class MinimalEdgesTest {
    private static final Checks CHECKS = new Checks();

    public static void main(String[] args) {
        CHECKS.test("nothing is drawn", MinimalEdgesTest::nothingDrawn);
        CHECKS.test("nothing stays", MinimalEdgesTest::nothingStays);
        CHECKS.test("one part, and it stays: no others are left", MinimalEdgesTest::onePart);
        CHECKS.test("one part, and the signature 0 stays too", MinimalEdgesTest::onePartAndNought);
        CHECKS.test("two parts", MinimalEdgesTest::twoParts);
        CHECKS.test("only the first part could be left out", () -> onlyOne(45));
        CHECKS.test("only the last part could be left out", () -> onlyOne(62));
        CHECKS.test("it does not stay, though the others would", MinimalEdgesTest::onlyTheOthers);
        CHECKS.test("two parts together could be left out, but no single one", MinimalEdgesTest::rowsDoNotCount);
        CHECKS.test("40 parts", MinimalEdgesTest::fortyParts);
        CHECKS.test("all but one left out of 40", MinimalEdgesTest::oneOfForty);
        CHECKS.test("minimal changes nothing", MinimalEdgesTest::changesNothing);
        CHECKS.end();
    }

    private static void minimal(CarDrawer x, long mask, boolean due) {
        Checks.say(x, mask);
        CHECKS.due("minimal() with " + Long.toHexString(mask), x.minimal(), due);
    }

    private static void nothingDrawn() {
        CarDrawer x = new CarDrawer(1);
        CHECKS.due("minimal()", x.minimal(), false);
        minimal(x, 1L, false);
        minimal(x, -1L, false);
    }

    private static void nothingStays() {
        CHECKS.due("minimal() of one", Checks.drawn(1, 4, 0).minimal(), false);
        CHECKS.due("minimal() of two", Checks.drawn(9, 5, 1).minimal(), false);
        CHECKS.due("minimal() of 40", Checks.drawn(12, 5, 20).minimal(), false);
    }

    private static void onePart() {
        minimal(Checks.drawn(1, 4, 0), 1L << 1, true);
        minimal(Checks.drawn(1, 4, 0), ~(1L << 1), false);
        minimal(Checks.drawn(20, 5, 1), 1L << 4, true);
    }

    private static void onePartAndNought() {
        minimal(Checks.drawn(1, 4, 0), 1L << 1 | 1L, true);
        minimal(Checks.drawn(1, 4, 0), -1L, true);
        minimal(Checks.drawn(1, 4, 0), 1L, false);
    }

    /** SIGNATURE 44 of both, 4 of the first, 40 of the second. */
    private static void twoParts() {
        CarDrawer x = Checks.drawn(3, 5, 1);
        minimal(x, 1L << 44, true);
        minimal(x, 1L << 44 | 1L << 4, false);
        minimal(x, 1L << 44 | 1L << 40, false);
        minimal(x, 1L << 44 | 1L, true);
        minimal(x, 1L << 4 | 1L << 40, false);
    }

    /** Of "b 1204 38 34, d 154 54 89, c 251 50 452, a 186 12 890" with the FAULT in the first. */
    private static void onlyOne(int signatureOfOthers) {
        CarDrawer x = Checks.drawn(1, 4, 2);
        minimal(x, 1L << 63, true);
        minimal(x, 1L << 63 | 1L << signatureOfOthers, false);
    }

    private static void onlyTheOthers() {
        minimal(Checks.drawn(1, 4, 2), ~(1L << 63), false);
    }

    /** The last two of those four alone: 4, 1. */
    private static void rowsDoNotCount() {
        minimal(Checks.drawn(1, 4, 2), 1L << 63 | 1L << 5, true);
    }

    private static void fortyParts() {
        for (int kind = 0; kind < 6; kind++) {
            CarDrawer x = Checks.drawn(12, kind, 20);
            minimal(x, 0L, false);
            minimal(x, -1L, false);
        }
    }

    private static void oneOfForty() {
        CarDrawer x = Checks.drawn(12, 2, 20);
        Checks.say(x, -1L);
        x.shorter();
        CHECKS.due("minimal()", x.minimal(), true);
        minimal(x, 0L, false);
    }

    private static void changesNothing() {
        Twins twins = Twins.shortened();
        CHECKS.due("minimal()", twins.asked.minimal(), true);
        twins.asked.minimal();
        twins.areStillAlike(CHECKS);
        Twins empty = Twins.withoutDrawing(2);
        empty.asked.minimal();
        empty.areStillAlike(CHECKS);
    }
}
