/** Promise 7: shorter; each row of shorten() tells another way of doing it wrong. */
final class ShorterTest {
    private static final Checks CHECKS = new Checks();

    public static void main(String[] args) {
        rows();
        singles();
        wide();
        nothingHappens();
        again();
        CHECKS.due("shorter() without a drawing", new CarDrawer(1).shorter(), -3);
        CHECKS.end();
    }

    private static void shorten(long seed, int kind, int size, long mask, String left) {
        CarDrawer x = Checks.drawn(seed, kind, size);
        Checks.say(x, mask);
        String of = "kind " + kind + ", size " + size + ", seed " + seed + ": ";
        CHECKS.due(of + "shorter()", x.shorter(), left.split(",").length);
        CHECKS.due(of + "left", Checks.left(x), left);
    }

    private static void rows() {
        // With single PARTS alone, [0] would be left.
        shorten(55, 5, 3, 0xfe6b767cc7ffdef5L, "3,");
        // Going on one by one behind what is kept would leave [2].
        shorten(44, 2, 4, 0xebfbcd5efea7bfbdL, "3,");
        // Without the short row at the end, [4] would be left.
        shorten(6, 1, 4, 0xdf7e6bf7bfff65f7L, "1,");
        // Wider rows are gone through once; again and again would leave [4].
        shorten(11, 5, 4, 0x9e9fe76541cc2813L, "0,1,4,");
        // Half of 3 is 1, not 2, which would leave [2].
        shorten(79, 5, 2, 0xc24da3363812e299L, "0,1,2,");
    }

    private static void singles() {
        // The SIGNATURE asked is that of the others; that of the row would leave [1].
        shorten(31, 5, 1, 0xfe77798dfeb5eabbL, "0,");
        // After a row has gone, the next one starts in its place.
        shorten(82, 4, 3, 0xb4797bfe77ffeb7fL, "2,");
        // After a row has gone, it doesn't start at the first PART again.
        shorten(8, 0, 3, 0xee7defef19b3f63bL, "0,");
        // Without another round of single PARTS, [0, 1] would be left.
        shorten(40, 2, 2, 0x1404ab1ecc7c6d81L, "1,");
    }

    private static void wide() {
        // All stays: of 28 the last is left.
        shorten(1, 2, 20, -1L, "27,");
        // What holds the FAULT stays: its PART is left.
        shorten(3, 4, 20, 0xffff0000ffff0000L, "28,");
        shorten(1, 4, 2, 1L << 63, "0,1,2,3,");
        shorten(1, 4, 0, -1L, "0,");
    }

    private static void nothingHappens() {
        CarDrawer x = Checks.drawn(1, 2, 20);
        CHECKS.due("signature", x.planted(2), 15);
        Checks.say(x, ~(1L << 15));
        CHECKS.due("shorter() of what does not stay", x.shorter(), 28);
        CHECKS.due("left(27)", x.left(27), 27);
        x.verdict(15, true);
        CHECKS.due("shorter() when it stays", x.shorter(), 1);
    }

    private static void again() {
        CarDrawer x = Checks.drawn(11, 5, 4);
        Checks.say(x, 0x9e9fe76541cc2813L);
        x.shorter();
        CHECKS.due("shorter() once more", x.shorter(), 3);
        Checks.say(x, -1L);
        CHECKS.due("shorter() when all stays", x.shorter(), 1);
        CHECKS.due("left", Checks.left(x), "4,");
        CHECKS.due("draw behind it", x.draw(5, 0), 1);
        CHECKS.due("left of it", Checks.left(x), "0,");
    }
}
