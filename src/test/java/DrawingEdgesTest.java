/** Terms: the smallest and largest SORT, X, Y, Z of each KIND, and the edges of the FAULTS. */
final class DrawingEdgesTest {
    private static final Checks CHECKS = new Checks();

    public static void main(String[] args) {
        CHECKS.test("the lowest sort", DrawingEdgesTest::lowestSort);
        CHECKS.test("the highest sort", DrawingEdgesTest::highestSort);
        CHECKS.test("x of a chart's and a drive's first part is 0", DrawingEdgesTest::firstOfChartAndDrive);
        CHECKS.test("x of a chart and a drive: 0 to the own number", DrawingEdgesTest::ownNumber);
        CHECKS.test("the smallest and the largest x of a matrix", DrawingEdgesTest::matrixX);
        CHECKS.test("the smallest and the largest x of a bus's first part", DrawingEdgesTest::busFirstX);
        CHECKS.test("the smallest and the largest step of a bus's x", DrawingEdgesTest::busStep);
        CHECKS.test("the smallest and the largest x of a package", DrawingEdgesTest::packageX);
        CHECKS.test("the smallest and the largest x of a tester", DrawingEdgesTest::testerX);
        CHECKS.test("y is 0 at least", DrawingEdgesTest::smallestY);
        CHECKS.test("y is 63 at most", DrawingEdgesTest::largestY);
        CHECKS.test("z is 0 at least", DrawingEdgesTest::smallestZ);
        CHECKS.test("z is 999 at most", DrawingEdgesTest::largestZ);
        CHECKS.test("y of a chart's sort 3 of itself", DrawingEdgesTest::chartOfItself);
        CHECKS.test("y of a chart's sort 3 of itself, where an older y was", DrawingEdgesTest::chartOfItselfLater);
        CHECKS.test("y of a chart's sort 3 of another part", DrawingEdgesTest::chartOfAnother);
        CHECKS.test("y of a chart's sort 3 of a part of sort 3", DrawingEdgesTest::chartChain);
        CHECKS.test("y of a chart's sort 3 before the fault is planted", DrawingEdgesTest::chartBeforeTheFault);
        CHECKS.test("only a chart's sort 3 draws no y", DrawingEdgesTest::sortThreeOfOthers);
        CHECKS.test("the last f without a fault", DrawingEdgesTest::lastWithoutFault);
        CHECKS.test("the first f with a fault", DrawingEdgesTest::firstFault);
        CHECKS.test("the last f of all", DrawingEdgesTest::lastFault);
        faults();
        CHECKS.end();
    }

    private static void faults() {
        CHECKS.test("the fault in the first part", DrawingEdgesTest::inTheFirst);
        CHECKS.test("the fault in the last part", DrawingEdgesTest::inTheLast);
        CHECKS.test("the fault in the first of 40 parts", DrawingEdgesTest::inTheFirstOfForty);
        CHECKS.test("the fault in the last of 40 parts", DrawingEdgesTest::inTheLastOfForty);
        CHECKS.test("fault 1 of the smallest and the largest x", DrawingEdgesTest::faultOfX);
        CHECKS.test("fault 1 of a bus leaves the x behind it", DrawingEdgesTest::faultOfBus);
        CHECKS.test("fault 2 of y = 0", DrawingEdgesTest::faultOfSmallestY);
        CHECKS.test("fault 2 of y = 63", DrawingEdgesTest::faultOfLargestY);
        CHECKS.test("fault 3 of z = 0", DrawingEdgesTest::faultOfSmallestZ);
        CHECKS.test("fault 3 of z = 999", DrawingEdgesTest::faultOfLargestZ);
        CHECKS.test("fault 4: one more than the highest sort", DrawingEdgesTest::faultOfSort);
        CHECKS.test("fault 5: x, y, z are 0, the sort is not", DrawingEdgesTest::faultOfAll);
        CHECKS.test("a drawing without a fault behind one with it", DrawingEdgesTest::faultIsGone);
    }

    private static void drawn(long seed, int kind, int size, String parts, int fault, int faultPart) {
        String of = "seed " + seed + ", kind " + kind + ": ";
        CarDrawer x = Checks.drawn(seed, kind, size);
        CHECKS.due(of + "parts", Checks.parts(x), parts);
        CHECKS.due(of + "planted(0)", x.planted(0), fault);
        CHECKS.due(of + "planted(1)", x.planted(1), faultPart);
    }

    private static void whole(long seed, int kind, String parts) {
        drawn(seed, kind, 1, parts, 0, -1);
    }

    private static void broken(long seed, int kind, String parts, int fault) {
        drawn(seed, kind, 1, parts, fault, 0);
    }

    private static void lowestSort() {
        whole(20, 0, "0 0 24 124,");
        whole(23, 1, "0 0 45 204,");
        whole(14, 2, "0 2 45 965,");
        whole(44, 3, "0 0 3 464,");
        whole(8, 4, "0 236 3 454,");
        whole(29, 5, "0 16 24 715,");
    }

    private static void highestSort() {
        whole(7, 0, "3 0 0 673,");
        whole(20, 1, "2 48 24 124,");
        whole(140, 2, "4 8 46 824,");
        whole(51, 3, "5 0 31 884,");
        whole(11, 4, "3 31 24 534,");
        whole(20, 5, "6 38 24 124,");
    }

    private static void firstOfChartAndDrive() {
        for (int seed = 0; seed < 200; seed++) {
            for (int kind = 0; kind <= 3; kind += 3) {
                CarDrawer x = Checks.drawn(seed, kind, 3);
                long due = x.planted(0) == 1 && x.planted(1) == 0 ? 1000 : 0;
                CHECKS.due("part(0, 1) of kind " + kind + ", seed " + seed, x.part(0, 1), due);
            }
        }
    }

    private static void ownNumber() {
        whole(27, 0, "3 0 0 996,0 0 22 204,");
        whole(15, 0, "3 0 0 743,2 1 58 129,");
        whole(13, 3, "5 0 59 704,1 0 50 741,");
        whole(12, 3, "4 0 10 795,1 1 2 564,");
    }

    private static void matrixX() {
        whole(23, 1, "0 0 45 204,");
        whole(41, 1, "1 56 45 385,");
    }

    private static void busFirstX() {
        whole(152, 2, "2 1 4 142,");
        whole(11, 2, "1 16 24 534,");
    }

    private static void busStep() {
        whole(59, 2, "3 6 46 214,3 7 0 291,");
        whole(3, 2, "3 4 10 204,3 20 21 89,");
    }

    private static void packageX() {
        whole(131, 4, "0 0 46 234,");
        whole(2492, 4, "0 255 23 925,");
    }

    private static void testerX() {
        whole(260, 5, "0 0 5 173,");
        whole(72, 5, "6 54 53 145,");
    }

    private static void smallestY() {
        whole(562, 0, "0 0 0 389,");
        whole(544, 1, "1 16 0 560,");
        whole(1368, 2, "4 1 0 43,");
        whole(553, 3, "5 0 0 151,");
        whole(562, 4, "0 160 0 389,");
        whole(544, 5, "2 34 0 560,");
    }

    private static void largestY() {
        whole(436, 0, "2 0 63 530,");
        whole(427, 1, "2 32 63 292,");
        whole(427, 2, "2 5 63 292,");
        whole(436, 3, "2 0 63 530,");
        whole(427, 4, "1 196 63 292,");
        whole(427, 5, "5 5 63 292,");
    }

    private static void smallestZ() {
        whole(1954, 0, "0 0 54 0,");
        whole(663, 1, "2 56 36 0,");
        whole(663, 2, "3 8 36 0,");
        whole(1954, 3, "4 0 54 0,");
        whole(12157, 4, "2 213 53 0,");
        whole(663, 5, "2 50 36 0,");
    }

    private static void largestZ() {
        whole(1793, 0, "3 0 0 999,");
        whole(4636, 1, "2 40 12 999,");
        whole(3305, 2, "3 16 51 999,");
        whole(1994, 3, "0 0 62 999,");
        whole(4636, 4, "2 21 12 999,");
        whole(4636, 5, "1 17 12 999,");
    }

    private static void chartOfItself() {
        whole(7, 0, "3 0 0 673,");
        whole(12, 0, "0 0 10 795,3 1 0 698,");
    }

    /** The places 0 and 1 of the DRAWING before have a Y that isn't 0. */
    private static void chartOfItselfLater() {
        int met = 0;
        for (int seed = 0; seed < 400; seed++) {
            CarDrawer x = Checks.drawn(seed, 1, 2);
            int n = x.draw(0, 2);
            for (int i = 0; i < n; i++) {
                if (x.planted(0) == 0 && x.part(i, 0) == 3 && x.part(i, 1) == i) {
                    met++;
                    CHECKS.due("part(" + i + ", 2) of seed " + seed, x.part(i, 2), 0);
                }
            }
        }
        CHECKS.due("there are such parts", met > 20, true);
    }

    private static void chartOfAnother() {
        whole(0, 0, "0 0 52 125,3 0 52 975,");
        whole(7433, 0, "0 0 0 447,3 0 0 579,");
    }

    private static void chartChain() {
        drawn(61, 0, 2, "1 0 17 384,1 1 31 292,3 0 17 528,3 2 17 188,", 0, -1);
    }

    private static void chartBeforeTheFault() {
        broken(598, 0, "0 0 -1 400,3 0 0 437,", 2);
        broken(11, 0, "3 0 -1 208,", 2);
    }

    private static void sortThreeOfOthers() {
        whole(32, 5, "3 3 45 794,");
        whole(3, 2, "3 4 10 204,3 20 21 89,");
        whole(11, 4, "3 31 24 534,");
    }

    private static void lastWithoutFault() {
        whole(20, 0, "0 0 24 124,");
        whole(47, 1, "1 32 24 544,");
        whole(1, 2, "3 13 38 34,");
        whole(20, 3, "2 0 24 124,");
        whole(29, 4, "1 77 24 715,");
        whole(47, 5, "5 5 24 544,");
    }

    private static void firstFault() {
        broken(60, 0, "0 1000 31 475,", 1);
        broken(78, 1, "1 1056 32 304,", 1);
        broken(20, 2, "0 1007 24 124,", 1);
        broken(60, 3, "0 1000 31 475,", 1);
        broken(1, 4, "1 1204 38 34,", 1);
        broken(78, 5, "2 1050 32 304,", 1);
    }

    private static void lastFault() {
        broken(1, 0, "1 0 38 1034,", 3);
        broken(1, 1, "0 32 -39 34,", 2);
        broken(106, 2, "5 2 18 985,", 4);
        broken(1, 3, "3 0 38 1034,", 3);
        broken(2, 4, "2 0 0 0,", 5);
        broken(1, 5, "1 1 -39 34,", 2);
    }

    private static void inTheFirst() {
        drawn(10, 0, 1, "2 0 -39 624,3 1 0 195,", 2, 0);
        drawn(22, 1, 1, "0 40 -61 294,2 24 30 215,", 2, 0);
        drawn(31, 2, 1, "2 5 -61 885,2 21 11 690,", 2, 0);
        drawn(21, 3, 1, "5 0 -11 385,2 0 46 39,", 2, 0);
        drawn(163, 4, 1, "0 111 -40 903,0 209 23 44,", 2, 0);
        drawn(22, 5, 1, "4 20 -61 294,4 52 30 215,", 2, 0);
    }

    private static void inTheLast() {
        drawn(6, 0, 1, "2 0 31 284,3 0 -32 836,", 2, 1);
        drawn(0, 1, 1, "0 8 52 125,2 0 -8 264,", 2, 1);
        drawn(9, 2, 1, "1 9 52 715,2 22 -52 739,", 2, 1);
        drawn(10, 3, 1, "4 0 38 624,1 1 -36 916,", 2, 1);
        drawn(10, 4, 1, "2 99 38 624,3 143 -36 916,", 2, 1);
        drawn(0, 5, 1, "1 17 52 125,0 0 -8 264,", 2, 1);
    }

    private static void ofForty(long seed, int kind, int number, int fault, String due) {
        CarDrawer x = new CarDrawer(seed);
        CHECKS.due("draw(" + kind + ", 20) of seed " + seed, x.draw(kind, 20), 40);
        CHECKS.due("planted(0)", x.planted(0), fault);
        CHECKS.due("planted(1)", x.planted(1), number);
        String part = x.part(number, 0) + " " + x.part(number, 1) + " " + x.part(number, 2) + " " + x.part(number, 3);
        CHECKS.due("its part", part, due);
    }

    private static void inTheFirstOfForty() {
        ofForty(1443, 0, 0, 3, "0 0 21 1143");
        ofForty(1028, 1, 0, 1, "2 1024 32 646");
        ofForty(4263, 2, 0, 4, "5 15 2 671");
        ofForty(1028, 3, 0, 2, "5 0 -33 646");
        ofForty(2726, 4, 0, 1, "3 1092 25 814");
        ofForty(1028, 5, 0, 1, "6 1054 32 646");
    }

    private static void inTheLastOfForty() {
        ofForty(3264, 0, 39, 2, "2 36 -36 899");
        ofForty(499, 1, 39, 1, "1 1008 3 193");
        ofForty(1536, 2, 39, 4, "5 356 27 232");
        ofForty(499, 3, 39, 2, "1 25 -4 193");
        ofForty(499, 4, 39, 4, "4 81 3 193");
        ofForty(499, 5, 39, 1, "3 1019 3 193");
    }

    private static void faultOfX() {
        broken(85, 1, "2 1000 60 724,", 1);
        broken(78, 1, "1 1056 32 304,", 1);
        broken(32, 2, "3 1001 45 794,", 1);
        broken(269, 2, "4 1016 5 763,", 1);
        broken(10550, 4, "2 1000 47 294,", 1);
        broken(1248, 4, "0 1255 41 695,", 1);
        broken(313, 5, "0 1000 19 102,", 1);
        broken(201, 5, "6 1054 11 84,", 1);
    }

    private static void faultOfBus() {
        broken(21, 2, "4 1003 10 385,4 12 46 39,", 1);
    }

    private static void faultOfSmallestY() {
        broken(4029, 0, "2 0 -1 133,", 2);
        broken(580, 1, "1 56 -1 571,", 2);
        broken(544, 2, "4 3 -1 560,", 2);
        broken(4029, 3, "2 0 -1 133,", 2);
        broken(553, 4, "3 9 -1 151,", 2);
        broken(580, 5, "0 48 -1 571,", 2);
    }

    private static void faultOfLargestY() {
        broken(3025, 0, "2 0 -64 952,", 2);
        broken(463, 1, "1 8 -64 302,", 2);
        broken(1251, 2, "2 2 -64 775,", 2);
        broken(3025, 3, "0 0 -64 952,", 2);
        broken(4808, 4, "3 10 -64 368,", 2);
        broken(463, 5, "5 21 -64 302,", 2);
    }

    private static void faultOfSmallestZ() {
        broken(663, 0, "1 0 36 1000,", 3);
        broken(16110, 2, "4 15 57 1000,", 3);
        broken(663, 3, "5 0 36 1000,", 3);
        broken(1954, 4, "0 3 54 1000,", 3);
    }

    private static void faultOfLargestZ() {
        broken(7258, 0, "0 0 55 1999,", 3);
        broken(17786, 2, "4 11 43 1999,", 3);
        broken(3305, 3, "1 0 51 1999,", 3);
        broken(48680, 4, "1 55 20 1999,", 3);
    }

    private static void faultOfSort() {
        broken(28, 2, "5 3 38 453,0 12 60 865,", 4);
        broken(106, 2, "5 2 18 985,", 4);
        broken(221, 4, "4 232 47 83,2 23 32 246,", 4);
        broken(30, 4, "4 9 10 624,", 4);
    }

    private static void faultOfAll() {
        broken(2, 4, "2 0 0 0,", 5);
        broken(7, 4, "3 0 0 0,", 5);
        broken(28, 4, "0 0 0 0,0 120 60 865,", 5);
    }

    private static void faultIsGone() {
        int met = 0;
        for (int seed = 0; seed < 100; seed++) {
            CarDrawer x = Checks.drawn(seed, 4, 1);
            boolean before = x.planted(0) > 0;
            x.draw(4, 1);
            if (before && x.planted(0) == 0) {
                met++;
                CHECKS.due("planted(1) of seed " + seed, x.planted(1), -1);
                CHECKS.due("planted(2) without 16, seed " + seed, x.planted(2) & 16, 0);
            }
        }
        CHECKS.due("there are such drawings", met > 10, true);
    }
}
