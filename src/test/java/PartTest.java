/** Promise 3: part. */
final class PartTest {
    private static final Checks CHECKS = new Checks();

    public static void main(String[] args) {
        numbers();
        whetherLeft();
        refusals();
        CHECKS.end();
    }

    private static void numbers() {
        CarDrawer x = Checks.drawn(1, 4, 2);
        long[][] due = {{1, 1204, 38, 34}, {3, 154, 54, 89}, {2, 251, 50, 452}, {0, 186, 12, 890}};
        for (int i = 0; i < due.length; i++) {
            for (int what = 0; what < 4; what++) {
                CHECKS.due("part(" + i + ", " + what + ")", x.part(i, what), due[i][what]);
            }
            CHECKS.due("part(" + i + ", 4)", x.part(i, 4), 1);
        }
    }

    private static void whetherLeft() {
        CarDrawer x = Checks.drawn(11, 5, 4);
        Checks.say(x, 0x9e9fe76541cc2813L);
        String before = Checks.parts(x);
        x.shorter();
        long[] due = {1, 1, 0, 0, 1};
        for (int i = 0; i < due.length; i++) {
            CHECKS.due("part(" + i + ", 4) when shorter", x.part(i, 4), due[i]);
        }
        CHECKS.due("the parts when shorter", Checks.parts(x), before);
        x.draw(5, 4);
        CHECKS.due("part(2, 4) when drawn anew", x.part(2, 4), 1);
        CHECKS.due("part(3, 4) when drawn anew", x.part(3, 4), 1);
    }

    private static void refusals() {
        CarDrawer x = Checks.drawn(1, 4, 2);
        int[] noParts = {-1, 4, 5, 39, 40, 41, Integer.MIN_VALUE, Integer.MAX_VALUE};
        int[] noWhats = {-1, 5, 6, Integer.MIN_VALUE, Integer.MAX_VALUE};
        for (int i : noParts) {
            for (int what = 0; what <= 4; what++) {
                CHECKS.due("part(" + i + ", " + what + ")", x.part(i, what), -1);
            }
            CHECKS.due("part(" + i + ", 5)", x.part(i, 5), -1);
        }
        for (int what : noWhats) {
            CHECKS.due("part(0, " + what + ")", x.part(0, what), -2);
            CHECKS.due("part(3, " + what + ")", x.part(3, what), -2);
        }
        // A smaller DRAWING must hide the PARTS of the one before.
        x.draw(4, 0);
        CHECKS.due("part(1, 0) of one part", x.part(1, 0), -1);
    }
}
