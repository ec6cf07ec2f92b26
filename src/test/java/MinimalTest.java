/** Promise 9: minimal. */
final class MinimalTest {
    private static final Checks CHECKS = new Checks();

    public static void main(String[] args) {
        CHECKS.due("minimal() without a drawing", allStays(new CarDrawer(1)).minimal(), false);
        CHECKS.due("minimal() of a single part", allStays(Checks.drawn(1, 0, 0)).minimal(), true);
        CHECKS.due("minimal() of more", allStays(Checks.drawn(1, 0, 2)).minimal(), false);
        minimalAtOnce();
        onlyTheOthersStay();
        eachPartIsTried();
        afterShorter();
        CHECKS.end();
    }

    private static CarDrawer allStays(CarDrawer x) {
        Checks.say(x, -1L);
        return x;
    }

    private static void minimalAtOnce() {
        CarDrawer x = Checks.drawn(79, 5, 2);
        Checks.say(x, 0xc24da3363812e299L);
        CHECKS.due("minimal() at once", x.minimal(), true);
        x.verdict(34, false);
        CHECKS.due("minimal() of what does not stay", x.minimal(), false);
    }

    private static void onlyTheOthersStay() {
        CarDrawer x = Checks.drawn(1, 4, 2);
        Checks.say(x, ~(1L << 63));
        CHECKS.due("minimal() when only the others stay", x.minimal(), false);
    }

    /** Of "b 1204 38 34, d 154 54 89, c 251 50 452, a 186 12 890" with the FAULT in the first. */
    private static void eachPartIsTried() {
        int[] without = {4 + 8 + 1 + 32, 2 + 4 + 1 + 16, 2 + 8 + 1 + 16 + 32, 2 + 8 + 4 + 16 + 32};
        for (int signature : without) {
            CarDrawer x = Checks.drawn(1, 4, 2);
            x.verdict(63, true);
            CHECKS.due("minimal() when 63 stays", x.minimal(), true);
            x.verdict(signature, true);
            CHECKS.due("minimal() when " + signature + " stays too", x.minimal(), false);
            CHECKS.due("minimal() changes nothing", Checks.left(x), "0,1,2,3,");
        }
    }

    private static void afterShorter() {
        for (int seed = 0; seed < 300; seed++) {
            CarDrawer x = Checks.drawn(seed, seed % 6, seed % 21);
            Checks.say(x, 0x9e3779b97f4a7c15L * (seed + 1));
            boolean stays = (0x9e3779b97f4a7c15L * (seed + 1) >>> x.planted(2) & 1) == 1;
            x.shorter();
            CHECKS.due("minimal() when shorter, seed " + seed, x.minimal(), stays);
        }
    }
}
