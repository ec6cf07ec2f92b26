/** Promise 7, and the sentences of "Terms" on how it is MADE SHORTER. */
final class ShorterEdgesTest {
    private static final Checks CHECKS = new Checks();

    public static void main(String[] args) {
        CHECKS.test("nothing is drawn", ShorterEdgesTest::nothingDrawn);
        CHECKS.test("a refused shorter changes nothing", ShorterEdgesTest::changesNothing);
        CHECKS.test("what is left does not stay", ShorterEdgesTest::doesNotStay);
        CHECKS.test("nothing stays", ShorterEdgesTest::nothingStays);
        CHECKS.test("one part: half of it is 0", ShorterEdgesTest::onePart);
        CHECKS.test("two parts: half of them is 1", ShorterEdgesTest::twoParts);
        CHECKS.test("three parts: half of them is 1", ShorterEdgesTest::threeParts);
        CHECKS.test("none is left out", ShorterEdgesTest::noneLeftOut);
        CHECKS.test("all but one are left out", ShorterEdgesTest::allButOne);
        CHECKS.test("the last one stays, though the signature 0 stays", ShorterEdgesTest::neverAll);
        CHECKS.test("fewer neighbours at the end", ShorterEdgesTest::fewerAtTheEnd);
        CHECKS.test("the first part and the last of 40", ShorterEdgesTest::firstAndLastOfForty);
        CHECKS.test("40 parts by 20, 10, 5, 2 and 1", ShorterEdgesTest::forty);
        CHECKS.test("wider rows once, single ones until none is left out", ShorterEdgesTest::singlesAgain);
        CHECKS.test("seven rounds with single parts", ShorterEdgesTest::sevenRounds);
        CHECKS.test("neighbours of those left, not of all", ShorterEdgesTest::neighboursLeft);
        CHECKS.test("w itself is halved, not what is left by then", ShorterEdgesTest::halvedAgain);
        CHECKS.test("when it is as short as can be", ShorterEdgesTest::onceMore);
        CHECKS.test("halves of what is left, not of all", ShorterEdgesTest::fromWhatIsLeft);
        CHECKS.end();
    }

    private static void shorter(long seed, int kind, int size, long mask, String left) {
        CarDrawer x = Checks.drawn(seed, kind, size);
        Checks.say(x, mask);
        String of = "seed " + seed + ", kind " + kind + ": ";
        CHECKS.due(of + "shorter()", x.shorter(), left.split(",").length);
        CHECKS.due(of + "left", Checks.left(x), left);
    }

    private static long only(int... signatures) {
        long mask = 0;
        for (int signature : signatures) {
            mask |= 1L << signature;
        }
        return mask;
    }

    private static void nothingDrawn() {
        CarDrawer x = new CarDrawer(1);
        CHECKS.due("shorter()", x.shorter(), -3);
        Checks.say(x, -1L);
        CHECKS.due("shorter() when all stays", x.shorter(), -3);
    }

    private static void changesNothing() {
        Twins twins = Twins.withoutDrawing(4);
        twins.asked.shorter();
        CHECKS.due("shorter()", twins.asked.shorter(), -3);
        CHECKS.due("planted(2)", twins.asked.planted(2), 0);
        twins.areStillAlike(CHECKS);
    }

    /** All others would stay. */
    private static void doesNotStay() {
        shorter(1, 4, 2, ~only(63), "0,1,2,3,");
        shorter(31, 5, 1, only(2), "0,1,");
    }

    private static void nothingStays() {
        for (int kind = 0; kind < 6; kind++) {
            CarDrawer x = Checks.drawn(12, kind, 20);
            CHECKS.due("shorter() of 40", x.shorter(), 40);
            CHECKS.due("left(39)", x.left(39), 39);
        }
    }

    private static void onePart() {
        shorter(3, 5, 0, -1L, "0,");
        shorter(3, 5, 0, only(1), "0,");
        shorter(3, 5, 0, 0L, "0,");
        shorter(20, 5, 1, -1L, "0,");
        shorter(20, 5, 1, only(4), "0,");
    }

    /** SIGNATURE 34 of both, 34 of the first, 2 of the second. */
    private static void twoParts() {
        shorter(31, 5, 1, only(34), "0,");
        shorter(31, 5, 1, only(34, 2), "1,");
        // 44 of both, 4 of the first, 40 of the second.
        shorter(3, 5, 1, only(44), "0,1,");
        shorter(3, 5, 1, only(44, 4), "0,");
        shorter(3, 5, 1, only(44, 40), "1,");
        shorter(3, 5, 1, only(44, 4, 40), "1,");
    }

    private static void threeParts() {
        shorter(39, 3, 2, 0x4419a0022280d480L, "1,");
        shorter(79, 5, 2, 0xc24da3363812e299L, "0,1,2,");
    }

    private static void noneLeftOut() {
        shorter(1, 4, 2, only(63), "0,1,2,3,");
        shorter(3, 5, 1, only(44), "0,1,");
    }

    private static void allButOne() {
        shorter(1, 4, 2, -1L, "3,");
        shorter(9, 5, 1, -1L, "1,");
        for (int kind = 0; kind < 6; kind++) {
            shorter(12, kind, 20, -1L, "39,");
            shorter(156, kind, 20, -1L, "19,");
        }
    }

    private static void neverAll() {
        shorter(31, 5, 1, only(34, 0), "0,");
        shorter(9, 5, 1, only(4, 36, 0), "1,");
        shorter(3, 5, 0, only(1, 0), "0,");
    }

    private static void fewerAtTheEnd() {
        shorter(6, 1, 4, 0xdf7e6bf7bfff65f7L, "1,");
        shorter(84, 4, 5, 0x48c4a834b6284115L, "3,");
        shorter(99, 5, 4, 0x4883111888a90889L, "4,5,");
        shorter(33, 0, 4, 0x290080004a312022L, "2,4,5,");
    }

    private static void firstAndLastOfForty() {
        shorter(1028, 3, 20, 0xffff0000ffff0000L, "0,");
        shorter(499, 3, 20, 0xffff0000ffff0000L, "39,");
    }

    private static void forty() {
        shorter(12, 0, 20, 0x8281804081004000L, "30,31,33,");
        shorter(12, 1, 20, 0xa400a0100680e0L, "28,29,");
        shorter(12, 2, 20, 0x84a80000a0808001L, "30,31,33,");
        shorter(12, 3, 20, 0x8400484080800400L, "36,37,38,");
        shorter(12, 4, 20, 0xa0a0000080824004L, "30,31,33,");
        shorter(12, 5, 20, 0x9284008081002000L, "30,31,33,");
    }

    /** Rounds with single PARTS: three, four and five, the last of which leaves out none. */
    private static void singlesAgain() {
        shorter(11, 5, 4, 0x9e9fe76541cc2813L, "0,1,4,");
        shorter(39, 3, 2, 0x4419a0022280d480L, "1,");
        shorter(28, 5, 3, 0xfe3cd3e544f99957L, "2,");
        shorter(81, 2, 4, 0xe6ad30092c8133e2L, "0,5,");
    }

    /** No drawing and verdict with more rounds than these could be found; the last leaves out none. */
    private static void sevenRounds() {
        shorter(199, 2, 7, 0xa245020739321b7dL, "2,");
        shorter(64, 5, 17, 0x41813c9aff5203c3L, "10,");
        // Six rounds, and five.
        shorter(21, 5, 14, 0x40010484c0680a12L, "19,");
        shorter(4, 0, 16, 0x20a006a548649d29L, "17,");
    }

    /** Where PARTS between were left out, a row has PARTS whose numbers are further apart than w. */
    private static void neighboursLeft() {
        shorter(113, 0, 12, 0xbf7f86bd354f6fa3L, "3,14,");
        shorter(175, 4, 17, 0xbdfe9cf6b7fffde5L, "19,");
        shorter(63, 4, 19, 0x40300011742a040L, "7,8,27,31,34,");
        shorter(192, 4, 20, 0x6584c1489c241480L, "0,1,2,25,26,");
    }

    /** Three are LEFT behind w = 4 or 5: it goes on with 2, not with half of three. */
    private static void halvedAgain() {
        shorter(55, 1, 18, 0x2d00084263849476L, "18,");
        shorter(8, 3, 19, 0xd821815b045b3eb5L, "22,");
        shorter(105, 2, 20, 0xd3c918e18912b5L, "35,");
    }

    private static void onceMore() {
        CarDrawer x = Checks.drawn(12, 2, 20);
        Checks.say(x, 0x84a80000a0808001L);
        x.shorter();
        CHECKS.due("shorter() again", x.shorter(), 3);
        CHECKS.due("left", Checks.left(x), "30,31,33,");
        Checks.say(x, 0L);
        CHECKS.due("shorter() when nothing stays", x.shorter(), 3);
        Checks.say(x, -1L);
        CHECKS.due("shorter() when all stays", x.shorter(), 1);
        CHECKS.due("the one left", x.left(0), 33);
        CHECKS.due("shorter() of the one", x.shorter(), 1);
    }

    /** Half of the three LEFT is 1; rows of two, half of all four, would leave [1]. */
    private static void fromWhatIsLeft() {
        CarDrawer x = Checks.drawn(22, 3, 3);
        Checks.say(x, 0xa9851a8dca230021L);
        CHECKS.due("shorter() of four", x.shorter(), 3);
        CHECKS.due("left", Checks.left(x), "0,1,2,");
        Checks.say(x, 0x33a9b4bb068fe849L);
        CHECKS.due("shorter() of three", x.shorter(), 2);
        CHECKS.due("left", Checks.left(x), "0,2,");
    }
}
