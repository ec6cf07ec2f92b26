/** Promise 2: draw, with every KIND and every FAULT of it. */
final class DrawTest {
    private static final Checks CHECKS = new Checks();

    public static void main(String[] args) {
        charts();
        matricesAndBuses();
        drivesAndPackages();
        testers();
        sizeNought();
        howMany();
        refusals();
        theStateGoesOn();
        CHECKS.end();
    }

    private static void drawing(long seed, int kind, String parts, int fault, int faultPart) {
        String of = "kind " + kind + " of seed " + seed + ": ";
        CarDrawer x = Checks.drawn(seed, kind, 2);
        CHECKS.due(of + "parts", Checks.parts(x), parts);
        CHECKS.due(of + "planted(0)", x.planted(0), fault);
        CHECKS.due(of + "planted(1)", x.planted(1), faultPart);
    }

    private static void charts() {
        drawing(4, 0, "0 0 59 465,3 1 0 333,2 1 63 114,2 0 11 887,", 0, -1);
        drawing(3, 0, "3 0 0 138,0 1 31 405,1 0 19 442,0 1001 6 745,", 1, 3);
        drawing(1, 0, "1 0 38 34,3 0 38 902,1 1 59 802,0 0 -59 812,", 2, 3);
        drawing(9, 0, "1 0 52 715,3 0 52 267,3 1 52 1435,3 0 52 142,", 3, 2);
    }

    private static void matricesAndBuses() {
        drawing(4, 1, "1 48 59 465,2 8 5 914,1 56 18 366,2 24 23 324,", 0, -1);
        drawing(2, 1, "0 1000 24 295,2 32 38 265,2 56 18 874,", 1, 0);
        drawing(1, 1, "0 32 -39 34,2 16 54 89,1 24 50 452,0 16 12 890,", 2, 0);
        drawing(2, 2, "2 9 24 295,4 22 38 265,2 30 18 874,", 0, -1);
        drawing(14, 2, "0 1002 45 965,0 11 33 565,3 19 19 882,", 1, 0);
        drawing(6, 2, "2 6 31 284,0 13 36 914,4 21 18 210,1 29 -53 261,", 2, 3);
        drawing(21, 2, "4 3 10 385,4 12 46 39,2 25 52 1132,3 26 42 78,", 3, 2);
        drawing(1, 2, "5 13 38 34,0 24 54 89,1 36 50 452,0 47 12 890,", 4, 0);
    }

    private static void drivesAndPackages() {
        drawing(3, 3, "1 0 10 204,5 1 21 89,3 1 50 296,3 2 41 179,", 0, -1);
        drawing(6, 3, "2 0 31 284,5 0 36 914,3 2 18 210,4 1003 52 261,", 1, 3);
        drawing(2, 3, "0 0 -25 295,5 0 38 265,2 2 18 874,", 2, 0);
        drawing(1, 3, "3 0 38 1034,5 0 54 89,4 0 50 452,0 2 12 890,", 3, 0);
        drawing(2, 4, "2 136 24 295,3 124 38 265,2 167 18 874,", 0, -1);
        drawing(1, 4, "1 1204 38 34,3 154 54 89,2 251 50 452,0 186 12 890,", 1, 0);
        drawing(18, 4, "2 63 52 954,0 161 32 214,2 103 -21 218,3 158 31 644,", 2, 2);
        drawing(4, 4, "0 254 59 1465,3 65 5 914,0 255 18 366,0 75 23 324,", 3, 0);
        drawing(14, 4, "4 81 45 965,3 24 33 565,1 183 19 882,", 4, 0);
        drawing(3, 4, "3 67 10 204,3 95 21 89,1 83 50 296,1 0 0 0,", 5, 3);
    }

    private static void testers() {
        drawing(4, 5, "6 38 59 465,4 20 5 914,6 54 18 366,6 54 23 324,", 0, -1);
        drawing(2, 5, "1 1001 24 295,2 2 38 265,2 50 18 874,", 1, 0);
        drawing(1, 5, "1 1 -39 34,1 33 54 89,4 52 50 452,5 37 12 890,", 2, 0);
    }

    private static void sizeNought() {
        for (int kind = 0; kind < 6; kind++) {
            CarDrawer x = new CarDrawer(9);
            x.draw(kind, 2);
            CHECKS.due("draw(" + kind + ", 0)", x.draw(kind, 0), 1);
            CHECKS.due("its parts", Checks.parts(x), "0 0 0 0,");
            CHECKS.due("its fault", x.planted(0), 0);
            CHECKS.due("its fault's part", x.planted(1), -1);
            CHECKS.due("what is left", Checks.left(x), "0,");
        }
    }

    private static void howMany() {
        boolean least = false;
        boolean most = false;
        for (long seed = 0; seed < 2000; seed++) {
            int n = new CarDrawer(seed * seed * seed).draw(5, 20);
            CHECKS.due("20 to 40 parts", n >= 20 && n <= 40, true);
            least |= n == 20;
            most |= n == 40;
        }
        CHECKS.due("some have 20 parts", least, true);
        CHECKS.due("some have 40 parts", most, true);
    }

    private static void refusals() {
        int[] noKinds = {-1, 6, 7, Integer.MIN_VALUE, Integer.MAX_VALUE};
        int[] noSizes = {-1, 21, Integer.MIN_VALUE, Integer.MAX_VALUE};
        CarDrawer x = Checks.drawn(1, 0, 2);
        for (int kind : noKinds) {
            CHECKS.due("draw(" + kind + ", 2)", x.draw(kind, 2), -1);
            CHECKS.due("draw(" + kind + ", 21)", x.draw(kind, 21), -1);
        }
        for (int size : noSizes) {
            for (int kind = 0; kind < 6; kind++) {
                CHECKS.due("draw(" + kind + ", " + size + ")", x.draw(kind, size), -2);
            }
        }
        CHECKS.due("the drawing after refusals", Checks.parts(x),
                "1 0 38 34,3 0 38 902,1 1 59 802,0 0 -59 812,");
        CHECKS.due("left after refusals", Checks.left(x), "0,1,2,3,");
    }

    /** Neither a refusal nor a drawing of size 0 draws from THE STATE, but every other draw does. */
    private static void theStateGoesOn() {
        CarDrawer x = new CarDrawer(1);
        x.draw(6, 1);
        x.draw(0, 21);
        x.draw(3, 0);
        CHECKS.due("first draw", x.draw(0, 2), 4);
        CHECKS.due("its parts", Checks.parts(x), "1 0 38 34,3 0 38 902,1 1 59 802,0 0 -59 812,");
        CHECKS.due("second draw", x.draw(0, 2), 3);
        CHECKS.due("its parts", Checks.parts(x), "1 0 -14 926,2 1 48 4,0 0 32 607,");
        CHECKS.due("left of the second", Checks.left(x), "0,1,2,");
    }
}
