/** Terms: THE STATE, a DRAW below n, and what wraps around in them. */
final class StateEdgesTest {
    private static final Checks CHECKS = new Checks();

    public static void main(String[] args) {
        CHECKS.test("the smallest seed", StateEdgesTest::smallestSeed);
        CHECKS.test("the largest seed", StateEdgesTest::largestSeed);
        CHECKS.test("the seed 0", StateEdgesTest::seedNought);
        CHECKS.test("the seed -1", StateEdgesTest::seedBelowNought);
        CHECKS.test("neither times nor plus wraps", StateEdgesTest::noWrap);
        CHECKS.test("only the multiplication wraps", StateEdgesTest::timesWraps);
        CHECKS.test("the addition wraps", StateEdgesTest::plusWraps);
        CHECKS.test("the addition just does not wrap", StateEdgesTest::plusReachesTheLargest);
        CHECKS.test("the addition just wraps", StateEdgesTest::plusReachesTheSmallest);
        CHECKS.test("the state becomes 0", StateEdgesTest::stateNought);
        CHECKS.test("the state becomes -1", StateEdgesTest::stateAllOnes);
        CHECKS.test("the shift leaves the 33 lowest bits behind", StateEdgesTest::shiftBy33);
        CHECKS.test("a draw below 1 answers 0 and moves the state", StateEdgesTest::belowOne);
        CHECKS.test("the state goes on from drawing to drawing", StateEdgesTest::goesOn);
        CHECKS.test("without a fault, no part is drawn for it", StateEdgesTest::goesOnWithoutFault);
        CHECKS.test("seeds that differ in the highest bit alone", StateEdgesTest::highestBit);
        CHECKS.end();
    }

    private static void parts(long seed, int kind, int size, String parts) {
        CHECKS.due("draw(" + kind + ", " + size + ") of seed " + seed,
                Checks.parts(Checks.drawn(seed, kind, size)), parts);
    }

    private static void smallestSeed() {
        parts(Long.MIN_VALUE, 0, 1, "0 0 52 949,3 0 -53 799,");
        parts(Long.MIN_VALUE, 1, 1, "1 8 52 949,1 0 -8 88,");
        parts(Long.MIN_VALUE, 2, 1, "3 2 52 949,2 11 7 88,");
        parts(Long.MIN_VALUE, 3, 1, "4 0 52 949,1 0 7 88,");
        parts(Long.MIN_VALUE, 4, 1, "0 17 52 949,3 184 7 88,");
        parts(Long.MIN_VALUE, 5, 1, "2 18 52 949,6 6 -8 88,");
    }

    private static void largestSeed() {
        parts(Long.MAX_VALUE, 0, 1, "3 0 0 426,");
        parts(Long.MAX_VALUE, 1, 1, "1 40 -3 40,");
        parts(Long.MAX_VALUE, 2, 1, "4 6 2 40,");
        parts(Long.MAX_VALUE, 3, 1, "1 0 2 40,");
        parts(Long.MAX_VALUE, 4, 1, "3 85 2 40,");
        parts(Long.MAX_VALUE, 5, 1, "2 18 -3 40,");
    }

    private static void seedNought() {
        parts(0, 0, 1, "0 0 52 125,3 0 52 975,");
        parts(0, 1, 1, "0 8 52 125,2 0 -8 264,");
        parts(0, 2, 1, "4 2 52 125,1 11 7 264,");
        parts(0, 3, 1, "0 0 52 125,5 1000 7 264,");
        parts(0, 4, 1, "0 17 52 125,3 0 0 0,");
        parts(0, 5, 1, "1 17 52 125,0 0 -8 264,");
    }

    private static void seedBelowNought() {
        parts(-1, 0, 1, "3 0 0 602,");
        parts(-1, 1, 1, "2 40 -3 864,");
        parts(-1, 2, 1, "3 6 2 864,");
        parts(-1, 3, 1, "5 0 2 1864,");
        parts(-1, 4, 1, "3 85 2 1864,");
        parts(-1, 5, 1, "3 19 -3 864,");
    }

    private static void noWrap() {
        parts(0, 5, 3, "1 17 52 125,0 0 7 264,2 50 18 382,2 2 30 745,6 54 35 134,2 50 -43 613,");
        parts(-1, 5, 3, "3 19 2 864,6 22 23 440,0 1048 50 960,");
    }

    private static void timesWraps() {
        parts(2, 5, 3, "1 1001 24 295,2 2 38 265,2 50 18 874,");
        parts(3, 5, 3, "6 54 10 204,3 51 -22 89,4 52 50 296,3 35 41 179,1 49 24 965,4 52 18 781,");
    }

    private static void plusWraps() {
        parts(10, 5, 3, "0 48 38 624,5 53 35 916,3 51 19 546,5 53 45 839,");
    }

    /** The first DRAW makes the STATE the largest long; its 31 bits are 2^30 - 1. */
    private static void plusReachesTheLargest() {
        parts(6412499349321099120L, 5, 1, "4 52 21 426,1 49 21 223,");
        parts(6412499349321099120L, 5, 2, "4 52 21 426,1 49 21 223,");
        CHECKS.due("draw(5, 20)", new CarDrawer(6412499349321099120L).draw(5, 20), 20);
    }

    /** The first DRAW makes the STATE the smallest long; without its sign its bits are 2^30. */
    private static void plusReachesTheSmallest() {
        parts(1843579416325869589L, 5, 1, "3 3 17 60,");
        parts(1843579416325869589L, 5, 2, "3 3 17 60,0 48 56 799,6 1054 15 306,");
        CHECKS.due("draw(5, 20)", new CarDrawer(1843579416325869589L).draw(5, 20), 21);
    }

    private static void stateNought() {
        parts(-7379792620528906219L, 5, 1, "2 2 17 236,");
        parts(-7379792620528906219L, 5, 2, "2 2 17 236,6 54 56 975,");
        CHECKS.due("draw(5, 20)", new CarDrawer(-7379792620528906219L).draw(5, 20), 20);
    }

    /** Shifted without its sign, it is 2^31 - 1, and not -1. */
    private static void stateAllOnes() {
        parts(-2810872687533676688L, 5, 1, "5 53 21 602,2 50 21 47,");
        parts(-2810872687533676688L, 5, 2, "5 53 21 602,2 50 21 47,6 6 35 162,");
        CHECKS.due("draw(5, 20)", new CarDrawer(-2810872687533676688L).draw(5, 20), 21);
    }

    /** The first DRAW makes the STATE 2^33 - 1, of which 0 is left, or 2^33, of which 1 is left. */
    private static void shiftBy33() {
        parts(4483922187169113968L, 5, 1, "6 6 10 251,");
        parts(-84997745826115563L, 5, 1, "5 21 6 885,4 4 61 560,");
        CHECKS.due("draw(5, 20) of 2^33 - 1", new CarDrawer(4483922187169113968L).draw(5, 20), 20);
        CHECKS.due("draw(5, 20) of 2^33", new CarDrawer(-84997745826115563L).draw(5, 20), 21);
    }

    /** The first X of a DRIVE is a DRAW below 1; Y and Z are a PACKAGE's, for which X is drawn too. */
    private static void belowOne() {
        parts(1, 3, 2, "3 0 38 1034,5 0 54 89,4 0 50 452,0 2 12 890,");
        parts(1, 4, 2, "1 1204 38 34,3 154 54 89,2 251 50 452,0 186 12 890,");
    }

    private static void goesOn() {
        CarDrawer x = Checks.drawn(1, 0, 2);
        CHECKS.due("the first", Checks.parts(x), "1 0 38 34,3 0 38 902,1 1 59 802,0 0 -59 812,");
        x.draw(0, 2);
        CHECKS.due("the second", Checks.parts(x), "1 0 -14 926,2 1 48 4,0 0 32 607,");
    }

    /** The DRAWING that comes behind one without a FAULT. */
    private static void goesOnWithoutFault() {
        next(4, 0, "0 0 34 575,2 0 13 16,2 2 11 800,");
        next(4, 1, "1 16 23 290,1 40 16 846,");
        next(2, 2, "4 11 45 86,0 20 38 164,");
        next(3, 3, "2 0 62 51,0 1 27 683,1 1 38 989,");
        next(2, 4, "2 234 45 86,3 168 38 164,");
        next(4, 5, "3 35 23 290,5 21 16 846,");
    }

    private static void next(long seed, int kind, String parts) {
        CarDrawer x = Checks.drawn(seed, kind, 2);
        CHECKS.due("planted(0) of the first of kind " + kind, x.planted(0), 0);
        x.draw(kind, 2);
        CHECKS.due("the second of kind " + kind, Checks.parts(x), parts);
    }

    /** Their STATES differ in that bit for ever; what is drawn below a power of two is the same. */
    private static void highestBit() {
        CarDrawer x = Checks.drawn(0, 4, 1);
        CarDrawer y = Checks.drawn(Long.MIN_VALUE, 4, 1);
        for (int what = 0; what < 3; what++) {
            CHECKS.due("part(0, " + what + ")", x.part(0, what), y.part(0, what));
        }
        CHECKS.due("part(0, 3) of 0", x.part(0, 3), 125);
        CHECKS.due("part(0, 3) of the smallest", y.part(0, 3), 949);
    }
}
