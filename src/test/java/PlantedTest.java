/** Promise 5: planted. */
final class PlantedTest {
    private static final Checks CHECKS = new Checks();

    public static void main(String[] args) {
        planted(2, 4, 0, -1, 12);
        planted(1, 4, 1, 0, 63);
        planted(18, 4, 2, 2, 29);
        planted(4, 4, 3, 0, 57);
        planted(14, 4, 4, 0, 27);
        planted(3, 4, 5, 3, 58);
        planted(21, 2, 3, 2, 29);
        planted(1, 2, 4, 0, 51);
        planted(3, 3, 0, -1, 10);
        planted(4, 5, 0, -1, 37);
        withoutThePartOfTheFault();
        everySecondOne();
        refusals();
        CHECKS.end();
    }

    private static void planted(long seed, int kind, int fault, int part, int signature) {
        String of = "kind " + kind + " of seed " + seed + ": ";
        CarDrawer x = Checks.drawn(seed, kind, 2);
        CHECKS.due(of + "planted(0)", x.planted(0), fault);
        CHECKS.due(of + "planted(1)", x.planted(1), part);
        CHECKS.due(of + "planted(2)", x.planted(2), signature);
    }

    /** The FAULT stays planted when its PART is not LEFT; the SIGNATURE is of what is LEFT. */
    private static void withoutThePartOfTheFault() {
        CarDrawer x = Checks.drawn(44, 2, 4);
        CHECKS.due("signature before", x.planted(2), 30);
        Checks.say(x, 0xebfbcd5efea7bfbdL);
        x.shorter();
        CHECKS.due("left", Checks.left(x), "3,");
        CHECKS.due("planted(0)", x.planted(0), 4);
        CHECKS.due("planted(1)", x.planted(1), 0);
        CHECKS.due("planted(2)", x.planted(2), 40);
        x.draw(2, 0);
        CHECKS.due("planted(0) of size 0", x.planted(0), 0);
        CHECKS.due("planted(1) of size 0", x.planted(1), -1);
        CHECKS.due("planted(2) of size 0", x.planted(2), 1);
    }

    private static void everySecondOne() {
        int[] faults = {3, 2, 4, 3, 5, 2};
        for (int kind = 0; kind < 6; kind++) {
            int[] times = new int[6];
            for (int i = 0; i < 500; i++) {
                times[Checks.drawn(i, kind, 1).planted(0)]++;
            }
            CHECKS.due("about half have none, kind " + kind, times[0] > 180 && times[0] < 320, true);
            for (int fault = 1; fault <= 5; fault++) {
                CHECKS.due("fault " + fault + " of kind " + kind, times[fault] > 0, fault <= faults[kind]);
            }
        }
    }

    private static void refusals() {
        int[] noWhats = {-1, 3, 4, Integer.MIN_VALUE, Integer.MAX_VALUE};
        CarDrawer x = Checks.drawn(1, 4, 2);
        CarDrawer empty = new CarDrawer(1);
        for (int what : noWhats) {
            CHECKS.due("planted(" + what + ")", x.planted(what), -2);
            CHECKS.due("planted(" + what + ") without a drawing", empty.planted(what), -2);
        }
    }
}
