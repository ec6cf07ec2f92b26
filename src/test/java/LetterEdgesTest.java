/** Promise 4, and the sentences of "Terms" on THE TEXT. */
final class LetterEdgesTest {
    private static final Checks CHECKS = new Checks();

    public static void main(String[] args) {
        CHECKS.test("nothing is drawn", LetterEdgesTest::nothingDrawn);
        CHECKS.test("a letter's number too small", LetterEdgesTest::tooSmall);
        CHECKS.test("a letter's number too large", LetterEdgesTest::tooLarge);
        CHECKS.test("a refused letter changes nothing", LetterEdgesTest::changesNothing);
        CHECKS.test("the first letter and the last", LetterEdgesTest::firstAndLast);
        CHECKS.test("the text of size 0", LetterEdgesTest::sizeNought);
        CHECKS.test("the letters of the sorts", LetterEdgesTest::sorts);
        CHECKS.test("the letter of one more than the highest sort", LetterEdgesTest::faultySorts);
        CHECKS.test("numbers of one digit, two, three and four", LetterEdgesTest::digits);
        CHECKS.test("numbers below 0", LetterEdgesTest::belowNought);
        CHECKS.test("noughts of the fault 5", LetterEdgesTest::noughts);
        CHECKS.test("the ends of lines", LetterEdgesTest::endsOfLines);
        CHECKS.test("the text of 40 parts", LetterEdgesTest::fortyParts);
        CHECKS.test("the text when all but one are left out", LetterEdgesTest::allButOneLeftOut);
        CHECKS.test("the text when none is left out", LetterEdgesTest::noneLeftOut);
        CHECKS.end();
    }

    private static void text(long seed, int kind, String due) {
        CHECKS.due("text of seed " + seed + ", kind " + kind, Checks.text(Checks.drawn(seed, kind, 1)), due);
    }

    private static void nothingDrawn() {
        CarDrawer x = new CarDrawer(1);
        for (int i : new int[] {0, 1, -1, Integer.MIN_VALUE, Integer.MAX_VALUE}) {
            CHECKS.due("letter(" + i + ")", x.letter(i), -1);
        }
    }

    private static void tooSmall() {
        CarDrawer x = Checks.drawn(3, 4, 2);
        for (int i : new int[] {-1, -2, -44, Integer.MIN_VALUE}) {
            CHECKS.due("letter(" + i + ")", x.letter(i), -1);
        }
    }

    /** "d 67 10 204", "d 95 21 89", "b 83 50 296" and "b 0 0 0", each with its end: 43 letters. */
    private static void tooLarge() {
        CarDrawer x = Checks.drawn(3, 4, 2);
        CHECKS.due("letter(42)", x.letter(42), 10);
        for (int i : new int[] {43, 44, 1000, Integer.MAX_VALUE}) {
            CHECKS.due("letter(" + i + ")", x.letter(i), -1);
        }
    }

    private static void changesNothing() {
        Twins twins = Twins.shortened();
        for (int i : new int[] {-1, 1000, Integer.MIN_VALUE, Integer.MAX_VALUE}) {
            twins.asked.letter(i);
        }
        twins.areStillAlike(CHECKS);
    }

    private static void firstAndLast() {
        CarDrawer x = Checks.drawn(3, 4, 2);
        CHECKS.due("letter(0)", x.letter(0), 'd');
        CHECKS.due("letter(1)", x.letter(1), 32);
        CHECKS.due("letter(41)", x.letter(41), '0');
        CHECKS.due("letter(42)", x.letter(42), 10);
    }

    private static void sizeNought() {
        CarDrawer x = Checks.drawn(3, 5, 0);
        int[] due = {97, 32, 48, 32, 48, 32, 48, 10, -1};
        for (int i = 0; i < due.length; i++) {
            CHECKS.due("letter(" + i + ")", x.letter(i), due[i]);
        }
    }

    private static void sorts() {
        text(29, 5, "a 16 24 715\n");
        text(35, 5, "b 33 3 874\n");
        text(26, 5, "c 50 3 635\n");
        text(32, 5, "d 3 45 794\n");
        text(23, 5, "e 4 45 204\n");
        text(30, 5, "f 21 10 624\n");
        text(20, 5, "g 38 24 124\n");
    }

    private static void faultySorts() {
        text(30, 4, "e 9 10 624\n");
        text(106, 2, "f 2 18 985\n");
    }

    private static void digits() {
        text(663, 1, "c 56 36 0\n");
        text(2030, 1, "c 24 62 9\n");
        text(3321, 1, "c 48 16 10\n");
        text(738, 1, "a 32 58 99\n");
        text(9590, 1, "b 16 60 100\n");
        text(4636, 1, "c 40 12 999\n");
        text(10550, 4, "c 1000 47 294\n");
        text(7961, 4, "c 1009 47 872\n");
        text(2843, 4, "a 1010 26 83\n");
        text(663, 0, "b 0 36 1000\n");
        text(7258, 0, "a 0 55 1999\n");
    }

    private static void belowNought() {
        text(580, 1, "b 56 -1 571\n");
        text(701, 1, "c 24 -9 180\n");
        text(818, 1, "a 8 -10 449\n");
        text(463, 1, "b 8 -64 302\n");
    }

    private static void noughts() {
        text(2, 4, "c 0 0 0\n");
        text(28, 4, "a 0 0 0\na 120 60 865\n");
    }

    private static void endsOfLines() {
        CarDrawer x = Checks.drawn(28, 4, 1);
        CHECKS.due("letter(6)", x.letter(6), '0');
        CHECKS.due("letter(7)", x.letter(7), 10);
        CHECKS.due("letter(8)", x.letter(8), 'a');
        CHECKS.due("letter(9)", x.letter(9), 32);
    }

    /** Each letter is asked of a drawer of its own: 505 letters and more would not fit its 512 calls. */
    private static void fortyParts() {
        int[] lengths = {444, 463, 505, 447, 488, 465};
        for (int kind = 0; kind < 6; kind++) {
            Model model = new Model(12);
            model.draw(kind, 20);
            for (int i = 0; i <= lengths[kind]; i++) {
                CHECKS.due("letter(" + i + ")", Checks.drawn(12, kind, 20).letter(i), model.letter(i));
            }
            CHECKS.due("the last letter", Checks.drawn(12, kind, 20).letter(lengths[kind] - 1), 10);
            CHECKS.due("the one behind", Checks.drawn(12, kind, 20).letter(lengths[kind]), -1);
        }
    }

    private static void allButOneLeftOut() {
        CarDrawer x = Checks.drawn(1, 4, 2);
        Checks.say(x, -1L);
        x.shorter();
        CHECKS.due("text", Checks.text(x), "a 186 12 890\n");
        CHECKS.due("letter(13)", x.letter(13), -1);
    }

    private static void noneLeftOut() {
        CarDrawer x = Checks.drawn(1, 4, 2);
        x.shorter();
        CHECKS.due("text", Checks.text(x), "b 1204 38 34\nd 154 54 89\nc 251 50 452\na 186 12 890\n");
    }
}
