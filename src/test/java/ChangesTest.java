import java.util.function.Consumer;

/**
 * What each call changes: "Nothing is promised beyond the answers and state changes described above"
 * means that draw, verdict and shorter change what they say and no more, and the others nothing.
 */
final class ChangesTest {
    private static final Checks CHECKS = new Checks();

    public static void main(String[] args) {
        asking("part", ChangesTest::askParts);
        asking("letter", ChangesTest::askLetters);
        asking("planted", ChangesTest::askPlanted);
        asking("left", ChangesTest::askLeft);
        asking("minimal", x -> x.minimal());
        asking("answers", x -> x.answers());
        asking("same", x -> x.same(11, 5, 4));
        CHECKS.test("each signature's verdict stays over a draw", ChangesTest::drawLeavesTheVerdict);
        CHECKS.test("verdict leaves the drawing and the state", ChangesTest::verdictLeavesTheRest);
        CHECKS.test("verdict leaves the other signatures", ChangesTest::verdictLeavesTheOthers);
        CHECKS.test("shorter leaves the parts and the fault", ChangesTest::shorterLeavesTheParts);
        CHECKS.test("shorter leaves the state", ChangesTest::shorterLeavesTheState);
        CHECKS.test("shorter leaves the state when nothing happens", ChangesTest::shorterWithoutEffect);
        CHECKS.test("shorter leaves the verdict", ChangesTest::shorterLeavesTheVerdict);
        CHECKS.test("two drawers in turn answer as each alone", ChangesTest::twoInTurn);
        CHECKS.end();
    }

    private static void asking(String call, Consumer<CarDrawer> ask) {
        CHECKS.test(call + " leaves what is left", () -> stillShortened(ask));
        CHECKS.test(call + " changes nothing when it answers", () -> alike(Twins.shortened(), ask));
        CHECKS.test(call + " changes nothing when nothing is drawn", () -> alike(Twins.withoutDrawing(6), ask));
    }

    /** Against numbers that are known, since a twin would be changed by the same question. */
    private static void stillShortened(Consumer<CarDrawer> ask) {
        CarDrawer x = shortened(0x9e9fe76541cc2813L);
        ask.accept(x);
        CHECKS.due("left(2)", x.left(2), 4);
        CHECKS.due("left(3)", x.left(3), -1);
        CHECKS.due("part(2, 4)", x.part(2, 4), 0);
        CHECKS.due("text", Checks.text(x), "a 48 24 534\ng 22 -19 740\nf 21 37 259\n");
        CHECKS.due("parts", Checks.parts(x), "0 48 24 534,6 22 -19 740,5 53 51 968,0 16 27 984,5 21 37 259,");
        CHECKS.due("planted(2)", x.planted(2), 1 + 4 + 2 + 16 + 32);
    }

    private static void alike(Twins twins, Consumer<CarDrawer> ask) {
        ask.accept(twins.asked);
        twins.areStillAlike(CHECKS);
    }

    private static void askParts(CarDrawer x) {
        for (int i = 0; i < 5; i++) {
            for (int what = 0; what < 5; what++) {
                x.part(i, what);
            }
        }
    }

    private static void askLetters(CarDrawer x) {
        for (int i = 0; i < 40; i++) {
            x.letter(i);
        }
    }

    private static void askPlanted(CarDrawer x) {
        for (int what = 0; what < 3; what++) {
            x.planted(what);
        }
    }

    private static void askLeft(CarDrawer x) {
        for (int i = 0; i < 3; i++) {
            x.left(i);
        }
    }

    /** Where the own SIGNATURE alone stays, it is minimal, or else a PART can be left out. */
    private static void drawLeavesTheVerdict() {
        boolean[] seen = new boolean[64];
        int met = 0;
        for (int seed = 0; seed < 20000 && met < 60; seed++) {
            int own = Checks.drawn(seed, seed % 6, 1 + seed % 4).planted(2) & 63;
            if (!seen[own]) {
                seen[own] = true;
                met++;
                CarDrawer x = new CarDrawer(seed);
                x.verdict(own, true);
                int n = x.draw(seed % 6, 1 + seed % 4);
                CHECKS.due(own + " stays", x.minimal() || x.shorter() < n, true);
            }
        }
        CHECKS.due("signatures met", met, 60);
    }

    private static void verdictLeavesTheRest() {
        CarDrawer x = Checks.drawn(11, 5, 4);
        Checks.say(x, 0L);
        x.verdict(-1, true);
        x.verdict(64, true);
        CHECKS.due("parts", Checks.parts(x), "0 48 24 534,6 22 -19 740,5 53 51 968,0 16 27 984,5 21 37 259,");
        CHECKS.due("left", Checks.left(x), "0,1,2,3,4,");
        CHECKS.due("planted(0)", x.planted(0), 2);
        CHECKS.due("planted(1)", x.planted(1), 1);
        x.draw(2, 3);
        CHECKS.due("the next parts", Checks.parts(x), "3 7 38 679,3 19 2 269,2 35 18 510,1 42 20 644,4 52 3 414,");
    }

    /** Of one PART with the SIGNATURE 1. */
    private static void verdictLeavesTheOthers() {
        CarDrawer x = Checks.drawn(1, 4, 0);
        for (int bits = 0; bits < 64; bits++) {
            x.verdict(1, true);
            x.verdict(bits, false);
            CHECKS.due("1 stays when " + bits + " does not", x.minimal(), bits != 1);
            x.verdict(1, false);
            x.verdict(bits, true);
            CHECKS.due("1 stays when " + bits + " does", x.minimal(), bits == 1);
        }
    }

    private static CarDrawer shortened(long mask) {
        CarDrawer x = Checks.drawn(11, 5, 4);
        Checks.say(x, mask);
        x.shorter();
        return x;
    }

    /** All but the last PART are left out, the one with the FAULT among them. */
    private static void shorterLeavesTheParts() {
        CarDrawer x = shortened(-1L);
        CHECKS.due("left", Checks.left(x), "4,");
        CHECKS.due("parts", Checks.parts(x), "0 48 24 534,6 22 -19 740,5 53 51 968,0 16 27 984,5 21 37 259,");
        CHECKS.due("planted(0)", x.planted(0), 2);
        CHECKS.due("planted(1)", x.planted(1), 1);
        CHECKS.due("answers()", x.answers(), false);
    }

    private static void shorterLeavesTheState() {
        CarDrawer x = shortened(0x9e9fe76541cc2813L);
        CHECKS.due("left", Checks.left(x), "0,1,4,");
        x.draw(2, 3);
        CHECKS.due("the next parts", Checks.parts(x), "3 7 38 679,3 19 2 269,2 35 18 510,1 42 20 644,4 52 3 414,");
    }

    private static void shorterWithoutEffect() {
        CarDrawer x = shortened(0L);
        CHECKS.due("left", Checks.left(x), "0,1,2,3,4,");
        x.draw(2, 3);
        CHECKS.due("the next parts", Checks.parts(x), "3 7 38 679,3 19 2 269,2 35 18 510,1 42 20 644,4 52 3 414,");
    }

    /** What was made shorter once is as short as it would be with a verdict said just now. */
    private static void shorterLeavesTheVerdict() {
        for (int seed = 0; seed < 60; seed++) {
            long mask = 0x9e3779b97f4a7c15L * (seed + 1);
            CarDrawer x = new CarDrawer(seed);
            CarDrawer y = new CarDrawer(seed);
            Checks.say(x, mask);
            for (int i = 0; i < 6; i++) {
                x.draw((seed + i) % 6, 3);
                y.draw((seed + i) % 6, 3);
                x.shorter();
            }
            Checks.say(y, mask);
            y.shorter();
            CHECKS.due("left of seed " + seed, Checks.left(x), Checks.left(y));
            CHECKS.due("minimal() of seed " + seed, x.minimal(), y.minimal());
        }
    }

    /** Tells what an earlier step has left behind before it goes on. */
    private static String step(CarDrawer x, int i) {
        String before = Checks.parts(x) + Checks.left(x) + x.letter(0) + x.minimal() + x.answers()
                + x.planted(0) + x.planted(1) + x.planted(2) + x.same(2, 4, 1);
        x.verdict(i * 7 % 64, true);
        x.verdict(i * 7 % 64 + 1, true);
        return before + x.draw(i % 6, i % 4) + x.shorter() + ";";
    }

    /** Each alone is asked to its end before the two in turn are made. */
    private static void twoInTurn() {
        String[] alone = {"", ""};
        for (int k = 0; k < 2; k++) {
            CarDrawer x = new CarDrawer(66 + k);
            for (int i = 0; i < 9; i++) {
                alone[k] += step(x, i + k);
            }
        }
        CarDrawer one = new CarDrawer(66);
        CarDrawer other = new CarDrawer(67);
        String[] inTurn = {"", ""};
        for (int i = 0; i < 9; i++) {
            inTurn[0] += step(one, i);
            inTurn[1] += step(other, i + 1);
        }
        CHECKS.due("the one", inTurn[0], alone[0]);
        CHECKS.due("the other", inTurn[1], alone[1]);
    }
}
