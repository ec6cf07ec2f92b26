/** Promise 11: same. */
final class SameEdgesTest {
    private static final Checks CHECKS = new Checks();

    public static void main(String[] args) {
        CHECKS.test("a kind too small", () -> noneSuch(new int[] {-1, -6, Integer.MIN_VALUE}, new int[] {0, 1, 20}));
        CHECKS.test("a kind too large", () -> noneSuch(new int[] {6, 7, Integer.MAX_VALUE}, new int[] {0, 1, 20}));
        CHECKS.test("a size too small", () -> noneSuch(new int[] {0, 5}, new int[] {-1, Integer.MIN_VALUE}));
        CHECKS.test("a size too large", () -> noneSuch(new int[] {0, 5}, new int[] {21, Integer.MAX_VALUE}));
        CHECKS.test("no kind and no size", () -> noneSuch(new int[] {-1, 6}, new int[] {-1, 21}));
        CHECKS.test("size 0 is always the same", SameEdgesTest::sizeNought);
        CHECKS.test("the own seed, size 1 and size 20", SameEdgesTest::ownSeed);
        CHECKS.test("seeds at the ends of a long", SameEdgesTest::ends);
        CHECKS.test("seeds that differ in the highest bit", SameEdgesTest::highestBit);
        CHECKS.test("another seed with the same parts and fault", SameEdgesTest::others);
        CHECKS.test("the same but for a sort", SameEdgesTest::otherSort);
        CHECKS.test("the same but for an x", SameEdgesTest::otherX);
        CHECKS.test("the same but for a y", SameEdgesTest::otherY);
        CHECKS.test("the same but for a z", SameEdgesTest::otherZ);
        CHECKS.test("the same parts with another fault", SameEdgesTest::otherFault);
        CHECKS.test("the same parts and fault, but in another part", SameEdgesTest::otherFaultPart);
        CHECKS.test("the same but for one part more", SameEdgesTest::onePartMore);
        CHECKS.test("the same but for the last part", SameEdgesTest::otherLastPart);
        CHECKS.test("the same before the fault", SameEdgesTest::beforeTheFault);
        CHECKS.test("nothing changes, when nothing is drawn", SameEdgesTest::stillNothing);
        CHECKS.test("nothing changes, when something is drawn", SameEdgesTest::stillTheSame);
        CHECKS.test("the first drawing counts, not the next one", SameEdgesTest::first);
        CHECKS.test("two calls do not hear of one another", SameEdgesTest::calledTwice);
        CHECKS.end();
    }

    private static void same(long seed, long other, int kind, int size, boolean due) {
        String call = "same(" + other + ", " + kind + ", " + size + ") of " + seed;
        CHECKS.due(call, new CarDrawer(seed).same(other, kind, size), due);
        CHECKS.due(call + ", turned", new CarDrawer(other).same(seed, kind, size), due);
    }

    private static void noneSuch(int[] kinds, int[] sizes) {
        for (int kind : kinds) {
            for (int size : sizes) {
                same(7, 7, kind, size, false);
                same(7, 8, kind, size, false);
            }
        }
    }

    private static void sizeNought() {
        for (int kind = 0; kind < 6; kind++) {
            same(1, 2, kind, 0, true);
            same(Long.MIN_VALUE, Long.MAX_VALUE, kind, 0, true);
        }
    }

    private static void ownSeed() {
        for (int kind = 0; kind < 6; kind++) {
            same(12, 12, kind, 1, true);
            same(12, 12, kind, 20, true);
        }
    }

    private static void ends() {
        for (int kind = 0; kind < 6; kind++) {
            same(Long.MIN_VALUE, Long.MIN_VALUE, kind, 20, true);
            same(Long.MAX_VALUE, Long.MAX_VALUE, kind, 20, true);
            same(Long.MIN_VALUE, Long.MAX_VALUE, kind, 20, false);
            same(Long.MAX_VALUE, -1, kind, 20, false);
        }
    }

    private static void highestBit() {
        for (int kind = 0; kind < 6; kind++) {
            same(0, Long.MIN_VALUE, kind, 1, false);
            same(1, Long.MIN_VALUE + 1, kind, 20, false);
        }
    }

    private static void others() {
        same(266, 306, 0, 1, true);
        same(30, 18099, 1, 1, true);
        same(368, 8234, 3, 1, true);
        same(2, 66, 4, 1, true);
        same(30, 18099, 5, 1, true);
    }

    private static void otherSort() {
        same(836, 3115, 0, 1, false);
        same(2028, 20097, 1, 1, false);
        same(3355, 21424, 3, 1, false);
        same(2, 7, 4, 1, false);
    }

    private static void otherX() {
        same(9131, 16997, 1, 1, false);
        same(701, 18770, 2, 1, false);
        same(350, 18419, 4, 1, false);
        same(735, 18804, 5, 1, false);
    }

    private static void otherY() {
        same(395, 1726, 0, 1, false);
        same(257, 2899, 1, 1, false);
        same(116, 6711, 2, 1, false);
        same(152, 497, 3, 1, false);
        same(220, 21256, 4, 1, false);
        same(124, 1415, 5, 1, false);
    }

    private static void otherZ() {
        same(7, 23, 0, 1, false);
        same(42, 51, 1, 1, false);
        same(2, 889, 2, 1, false);
        same(11, 47, 3, 1, false);
        same(187, 6153, 4, 1, false);
        same(399, 408, 5, 1, false);
    }

    /** One PACKAGE PART of 0, 0, 0, 0: with the FAULT 5, and drawn so. */
    private static void otherFault() {
        same(48, 172210911, 4, 1, false);
        same(48, 227, 4, 1, true);
        same(172210911, 222806896, 4, 1, true);
    }

    /** Two PACKAGE PARTS of 0, 0, 0: one by the FAULT 5, the other drawn so. PARTS and FAULT are the same. */
    private static void otherFaultPart() {
        long[] seeds = {2739140745L, 594426610L};
        for (int i = 0; i < 2; i++) {
            CarDrawer x = Checks.drawn(seeds[i], 4, 1);
            CHECKS.due("parts", Checks.parts(x), "2 0 0 0,2 0 0 0,");
            CHECKS.due("planted(0)", x.planted(0), 5);
            CHECKS.due("planted(1)", x.planted(1), i);
        }
        same(seeds[0], seeds[1], 4, 1, true);
    }

    private static void onePartMore() {
        same(7, 31, 4, 1, false);
        same(48, 28, 4, 1, false);
        same(2, 50, 4, 1, false);
    }

    private static void otherLastPart() {
        same(98, 138, 0, 1, false);
        same(444, 18513, 1, 1, false);
        same(681, 8547, 3, 1, false);
        same(444, 18513, 5, 1, false);
    }

    private static void beforeTheFault() {
        same(94, 134, 0, 1, false);
        same(76, 18145, 1, 1, false);
        same(984, 185411, 2, 1, false);
        same(125, 7991, 3, 1, false);
        same(421, 18490, 5, 1, false);
    }

    private static void ask(CarDrawer x) {
        x.same(8, 3, 20);
        x.same(11, 5, 4);
        x.same(11, 0, 0);
        x.same(11, 6, 4);
        x.same(11, 5, 21);
        x.same(Long.MIN_VALUE, 4, 20);
    }

    private static void stillNothing() {
        Twins twins = Twins.withoutDrawing(11);
        ask(twins.asked);
        CHECKS.due("shorter()", twins.asked.shorter(), -3);
        twins.areStillAlike(CHECKS);
    }

    private static void stillTheSame() {
        Twins twins = Twins.shortened();
        ask(twins.asked);
        CHECKS.due("left", Checks.left(twins.asked), "0,1,4,");
        twins.areStillAlike(CHECKS);
    }

    private static void first() {
        CarDrawer x = Checks.drawn(2, 0, 20);
        CHECKS.due("same(66, 4, 1)", x.same(66, 4, 1), true);
        CHECKS.due("same(2, 4, 20)", x.same(2, 4, 20), true);
        x.draw(4, 1);
        CHECKS.due("same(66, 4, 1) later", x.same(66, 4, 1), true);
        CHECKS.due("same(67, 4, 1) later", x.same(67, 4, 1), false);
    }

    private static void calledTwice() {
        CarDrawer x = new CarDrawer(2);
        for (int i = 0; i < 3; i++) {
            CHECKS.due("same(66, 4, 1)", x.same(66, 4, 1), true);
            CHECKS.due("same(7, 4, 1)", x.same(7, 4, 1), false);
            CHECKS.due("same(2, 0, 20)", x.same(2, 0, 20), true);
        }
    }
}
