/** Promise 8: left. */
final class LeftTest {
    private static final Checks CHECKS = new Checks();

    public static void main(String[] args) {
        allAtFirst();
        fewerWhenShorter();
        CHECKS.end();
    }

    private static void allAtFirst() {
        for (int size = 0; size <= 20; size++) {
            CarDrawer x = new CarDrawer(size);
            int n = x.draw(3, size);
            for (int i = 0; i < n; i++) {
                CHECKS.due("left(" + i + ")", x.left(i), i);
            }
            none(x, n);
        }
    }

    private static void fewerWhenShorter() {
        CarDrawer x = Checks.drawn(11, 5, 4);
        Checks.say(x, 0x9e9fe76541cc2813L);
        x.shorter();
        CHECKS.due("left(0)", x.left(0), 0);
        CHECKS.due("left(1)", x.left(1), 1);
        CHECKS.due("left(2)", x.left(2), 4);
        CHECKS.due("left(4)", x.left(4), -1);
        none(x, 3);
    }

    private static void none(CarDrawer x, int n) {
        int[] numbers = {-1, n, n + 1, 40, 41, Integer.MIN_VALUE, Integer.MAX_VALUE};
        for (int i : numbers) {
            CHECKS.due("left(" + i + ") of " + n, x.left(i), -1);
        }
    }
}
