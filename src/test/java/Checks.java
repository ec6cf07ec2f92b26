/** What the tests of the project share: comparing answers, and ending with 1 if one was wrong. */
final class Checks {
    private int wrong = 0;
    private int made = 0;
    private String boundary = "";

    /** A boundary case in a test of its own: it has to ask for an answer, and no call may throw. */
    void test(String named, Runnable test) {
        int before = made;
        boundary = named + ": ";
        try {
            test.run();
        } catch (RuntimeException thrown) {
            tellWrong("threw " + thrown);
        }
        if (made == before) {
            tellWrong("asked for no answer");
        }
        boundary = "";
    }

    private void tellWrong(String what) {
        wrong++;
        System.out.println(boundary + what);
    }

    void due(String call, long got, long want) {
        made++;
        if (got != want) {
            tellWrong(call + " answered " + got + ", due is " + want);
        }
    }

    void due(String call, boolean got, boolean want) {
        due(call, got ? 1 : 0, want ? 1 : 0);
    }

    void due(String call, String got, String want) {
        made++;
        if (!got.equals(want)) {
            tellWrong(call + " answered [" + got + "], due is [" + want + "]");
        }
    }

    void end() {
        System.out.println(made + " answers, " + wrong + " not as due");
        if (wrong != 0 || made == 0) {
            System.exit(1);
        }
    }

    static CarDrawer drawn(long seed, int kind, int size) {
        CarDrawer x = new CarDrawer(seed);
        x.draw(kind, size);
        return x;
    }

    /** Says of every SIGNATURE, by the bits of a mask, whether it stays. */
    static void say(CarDrawer x, long mask) {
        for (int i = 0; i < 64; i++) {
            x.verdict(i, (mask >>> i & 1) == 1);
        }
    }

    static String text(CarDrawer x) {
        StringBuilder text = new StringBuilder();
        // One call a letter: an object is good for 512 calls.
        int letter = x.letter(0);
        for (int i = 1; i < 400 && letter != -1; i++) {
            text.append((char) letter);
            letter = x.letter(i);
        }
        return text.toString();
    }

    /** The PARTS by their numbers, one after the other: SORT X Y Z, and a comma behind each. */
    static String parts(CarDrawer x) {
        StringBuilder parts = new StringBuilder();
        for (int i = 0; i < 100 && x.part(i, 0) != -1; i++) {
            parts.append(x.part(i, 0)).append(' ').append(x.part(i, 1)).append(' ')
                    .append(x.part(i, 2)).append(' ').append(x.part(i, 3)).append(',');
        }
        return parts.toString();
    }

    static String left(CarDrawer x) {
        StringBuilder left = new StringBuilder();
        int number = x.left(0);
        for (int i = 1; i < 100 && number != -1; i++) {
            left.append(number).append(',');
            number = x.left(i);
        }
        return left.toString();
    }
}
