/** Promise 11: same. */
final class SameTest {
    private static final Checks CHECKS = new Checks();

    public static void main(String[] args) {
        itself();
        others();
        noKindOrSize();
        fromTheSeed();
        nothingChanges();
        CHECKS.end();
    }

    private static void same(long seed, long other, int kind, int size, boolean due) {
        String call = "same(" + other + ", " + kind + ", " + size + ") of " + seed;
        CHECKS.due(call, new CarDrawer(seed).same(other, kind, size), due);
        CHECKS.due(call + ", turned", new CarDrawer(other).same(seed, kind, size), due);
    }

    private static void itself() {
        long[] seeds = {0, 1, -1, Long.MIN_VALUE, Long.MAX_VALUE};
        for (long seed : seeds) {
            for (int kind = 0; kind < 6; kind++) {
                same(seed, seed, kind, 0, true);
                same(seed, seed + 5, kind, 0, true);
                same(seed, seed, kind, 20, true);
                same(seed, seed + 5, kind, 20, false);
            }
        }
    }

    private static void others() {
        // One PART of a PACKAGE, with the FAULT 5: only its SORT is seen.
        same(2, 66, 4, 1, true);
        same(7, 122, 4, 1, true);
        same(2, 7, 4, 1, false);
        same(48, 227, 4, 1, true);
        // One PART with 0 for all, without a FAULT.
        same(172210911, 222806896, 4, 1, true);
        // The same PART, once with the FAULT 5 and once without one.
        same(48, 172210911, 4, 1, false);
        same(2, 66, 5, 1, false);
        same(2, 66, 4, 2, false);
    }

    private static void noKindOrSize() {
        CarDrawer x = new CarDrawer(3);
        int[] noKinds = {-1, 6, Integer.MIN_VALUE, Integer.MAX_VALUE};
        int[] noSizes = {-1, 21, Integer.MIN_VALUE, Integer.MAX_VALUE};
        for (int kind : noKinds) {
            CHECKS.due("same(3, " + kind + ", 0)", x.same(3, kind, 0), false);
            CHECKS.due("same(3, " + kind + ", 5)", x.same(3, kind, 5), false);
        }
        for (int size : noSizes) {
            CHECKS.due("same(3, 0, " + size + ")", x.same(3, 0, size), false);
        }
    }

    /** The seed counts, not THE STATE that later drawings have left behind. */
    private static void fromTheSeed() {
        CarDrawer x = new CarDrawer(2);
        x.draw(0, 20);
        x.draw(3, 7);
        CHECKS.due("same(2, 5, 9) later", x.same(2, 5, 9), true);
        CHECKS.due("same(66, 4, 1) later", x.same(66, 4, 1), true);
        CHECKS.due("same(3, 5, 9) later", x.same(3, 5, 9), false);
    }

    private static void nothingChanges() {
        CarDrawer x = Checks.drawn(11, 5, 4);
        CarDrawer plain = Checks.drawn(11, 5, 4);
        Checks.say(x, 0x9e9fe76541cc2813L);
        Checks.say(plain, 0x9e9fe76541cc2813L);
        x.shorter();
        plain.shorter();
        x.same(8, 3, 20);
        x.same(11, 0, 0);
        CHECKS.due("text after same", Checks.text(x), Checks.text(plain));
        CHECKS.due("parts after same", Checks.parts(x), Checks.parts(plain));
        CHECKS.due("planted(0) after same", x.planted(0), plain.planted(0));
        CHECKS.due("planted(1) after same", x.planted(1), plain.planted(1));
        CHECKS.due("minimal() after same", x.minimal(), plain.minimal());
        CHECKS.due("draw after same", x.draw(2, 9), plain.draw(2, 9));
        CHECKS.due("parts of the next", Checks.parts(x), Checks.parts(plain));
    }
}
