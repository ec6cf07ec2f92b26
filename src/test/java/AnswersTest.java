/** Promise 10: answers. */
final class AnswersTest {
    private static final Checks CHECKS = new Checks();

    public static void main(String[] args) {
        CHECKS.due("answers() without a drawing", new CarDrawer(1).answers(), false);
        answers(3, 0, 0, true);
        answers(2, 4, 2, true);
        answers(1, 4, 2, false);
        answers(3, 3, 2, true);
        answers(4, 5, 2, false);
        answers(21, 2, 2, true);
        answers(3, 4, 2, false);
        ofAllParts();
        CHECKS.end();
    }

    private static void answers(long seed, int kind, int size, boolean due) {
        CHECKS.due("answers() of kind " + kind + ", seed " + seed,
                Checks.drawn(seed, kind, size).answers(), due);
    }

    /** Those that are not LEFT count too. */
    private static void ofAllParts() {
        CarDrawer x = Checks.drawn(82, 4, 3);
        Checks.say(x, 0xb4797bfe77ffeb7fL);
        CHECKS.due("answers() before", x.answers(), true);
        x.shorter();
        CHECKS.due("Z of what is left is odd", x.planted(2) & 32, 32);
        CHECKS.due("answers() when shorter", x.answers(), true);
        x.draw(6, 1);
        CHECKS.due("answers() after a refusal", x.answers(), true);
    }
}
