/** Terms: the SIGNATURE of a ROW, as planted(2) tells it. */
final class SignatureEdgesTest {
    private static final Checks CHECKS = new Checks();

    public static void main(String[] args) {
        CHECKS.test("a bit for each sort below 4", SignatureEdgesTest::sortsBelowFour);
        CHECKS.test("sorts of 4 and more, modulo 4", SignatureEdgesTest::sortsFromFour);
        CHECKS.test("a sort planted by the fault 4, modulo 4", SignatureEdgesTest::plantedSorts);
        CHECKS.test("a bit that two parts have counts once", SignatureEdgesTest::joinedByOr);
        CHECKS.test("the smallest signature and the largest", SignatureEdgesTest::smallestAndLargest);
        CHECKS.test("16 with the fault and without it", SignatureEdgesTest::fault);
        CHECKS.test("an even sum of odd numbers", SignatureEdgesTest::oddAndOdd);
        CHECKS.test("an odd sum", SignatureEdgesTest::oddAndEven);
        CHECKS.test("z of 0 and of 1000 and more", SignatureEdgesTest::faultsOfZ);
        CHECKS.test("y below 0 has no part in it", SignatureEdgesTest::belowNought);
        CHECKS.test("40 parts", SignatureEdgesTest::fortyParts);
        CHECKS.end();
    }

    private static void signature(long seed, int kind, int size, int due) {
        CHECKS.due("planted(2) of seed " + seed + ", kind " + kind,
                Checks.drawn(seed, kind, size).planted(2), due);
    }

    private static void sortsBelowFour() {
        signature(29, 5, 1, 1 + 32);
        signature(35, 5, 1, 2);
        signature(26, 5, 1, 4 + 32);
        signature(32, 5, 1, 8);
    }

    private static void sortsFromFour() {
        signature(23, 5, 1, 1);
        signature(30, 5, 1, 2);
        signature(20, 5, 1, 4);
        signature(140, 2, 1, 1);
        signature(51, 3, 1, 2);
    }

    private static void plantedSorts() {
        signature(30, 4, 1, 1 + 16);
        signature(106, 2, 1, 2 + 16 + 32);
        signature(28, 2, 1, 2 + 1 + 16);
        signature(221, 4, 1, 1 + 4 + 16 + 32);
    }

    private static void joinedByOr() {
        signature(9, 5, 1, 4);
        signature(21, 2, 1, 1 + 16);
        signature(49, 0, 1, 2);
    }

    private static void smallestAndLargest() {
        signature(20, 0, 1, 1);
        signature(449, 0, 2, 63);
        CHECKS.due("planted(2) of nothing", new CarDrawer(20).planted(2), 0);
    }

    private static void fault() {
        signature(359, 0, 2, 15);
        signature(373, 0, 2, 31);
        signature(15, 0, 2, 47);
        CarDrawer x = Checks.drawn(44, 2, 4);
        CHECKS.due("planted(2) with the fault", x.planted(2), 30);
        Checks.say(x, 0xebfbcd5efea7bfbdL);
        x.shorter();
        CHECKS.due("planted(2) without it", x.planted(2), 40);
    }

    private static void oddAndOdd() {
        signature(9, 5, 1, 4);
        signature(10, 5, 1, 1 + 2);
    }

    private static void oddAndEven() {
        signature(31, 5, 1, 2 + 32);
        signature(3, 5, 1, 4 + 8 + 32);
    }

    private static void faultsOfZ() {
        signature(663, 0, 1, 2 + 16);
        signature(7258, 0, 1, 1 + 16 + 32);
        signature(2, 4, 1, 4 + 16);
        signature(28, 4, 1, 1 + 16 + 32);
    }

    private static void belowNought() {
        signature(580, 1, 1, 2 + 16 + 32);
        signature(463, 1, 1, 2 + 16);
    }

    private static void fortyParts() {
        int[] due = {31, 55, 63, 63, 63, 63};
        for (int kind = 0; kind < 6; kind++) {
            signature(12, kind, 20, due[kind]);
        }
    }
}
