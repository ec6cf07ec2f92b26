/** Promise 4: letter. */
final class LetterTest {
    private static final Checks CHECKS = new Checks();

    public static void main(String[] args) {
        text(3, 0, "d 0 0 138\na 1 31 405\nb 0 19 442\na 1001 6 745\n");
        text(1, 0, "b 0 38 34\nd 0 38 902\nb 1 59 802\na 0 -59 812\n");
        text(21, 2, "e 3 10 385\ne 12 46 39\nc 25 52 1132\nd 26 42 78\n");
        text(1, 2, "f 13 38 34\na 24 54 89\nb 36 50 452\na 47 12 890\n");
        text(3, 4, "d 67 10 204\nd 95 21 89\nb 83 50 296\nb 0 0 0\n");
        text(4, 5, "g 38 59 465\ne 20 5 914\ng 54 18 366\ng 54 23 324\n");
        ofWhatIsLeft();
        sizeNought();
        noLetters();
        CHECKS.end();
    }

    private static void text(long seed, int kind, String text) {
        CHECKS.due("text of kind " + kind + ", seed " + seed,
                Checks.text(Checks.drawn(seed, kind, 2)), text);
    }

    private static void ofWhatIsLeft() {
        CarDrawer x = Checks.drawn(11, 5, 4);
        Checks.say(x, 0x9e9fe76541cc2813L);
        x.shorter();
        CHECKS.due("text of what is left", Checks.text(x), "a 48 24 534\ng 22 -19 740\nf 21 37 259\n");
    }

    private static void sizeNought() {
        CHECKS.due("text of size 0", Checks.text(Checks.drawn(5, 3, 0)), "a 0 0 0\n");
    }

    private static void noLetters() {
        CarDrawer x = Checks.drawn(3, 4, 2);
        int length = "d 67 10 204\nd 95 21 89\nb 83 50 296\nb 0 0 0\n".length();
        int[] none = {-1, -2, length, length + 1, Integer.MIN_VALUE, Integer.MAX_VALUE};
        for (int i : none) {
            CHECKS.due("letter(" + i + ")", x.letter(i), -1);
        }
        CHECKS.due("the last letter", x.letter(length - 1), 10);
    }
}
