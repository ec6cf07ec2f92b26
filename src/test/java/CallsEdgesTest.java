/** "What it is": an object is used for at most 512 calls, so the 512th still answers as the first. */
final class CallsEdgesTest {
    private static final Checks CHECKS = new Checks();
    private static final int MOST = 512;

    public static void main(String[] args) {
        CHECKS.test("512 draws of size 20", CallsEdgesTest::draws);
        CHECKS.test("512 draws of size 0", CallsEdgesTest::drawsOfNought);
        CHECKS.test("the 512th call, behind 511 draws of size 20", CallsEdgesTest::behindDraws);
        CHECKS.test("511 refused draws, and the first drawing", CallsEdgesTest::refusals);
        CHECKS.test("512 calls of same", CallsEdgesTest::sames);
        CHECKS.test("226 drawings, each made shorter, behind 60 verdicts", CallsEdgesTest::shorters);
        CHECKS.test("510 verdicts, and what they say", CallsEdgesTest::verdicts);
        CHECKS.test("511 letters", CallsEdgesTest::letters);
        CHECKS.end();
    }

    private static CarDrawer afterDraws(long seed, int kind, int draws) {
        CarDrawer x = new CarDrawer(seed);
        for (int i = 0; i < draws; i++) {
            x.draw(kind, 20);
        }
        return x;
    }

    private static void draws() {
        int[] due = {27, 22, 22, 22, 36, 36};
        for (int kind = 0; kind < 6; kind++) {
            CarDrawer x = afterDraws(MOST + kind, kind, MOST - 1);
            CHECKS.due("the 512th draw(" + kind + ", 20)", x.draw(kind, 20), due[kind]);
        }
    }

    private static void drawsOfNought() {
        CarDrawer x = new CarDrawer(1);
        for (int i = 0; i < MOST; i++) {
            CHECKS.due("draw(0, 0), call " + i, x.draw(0, 0), 1);
        }
    }

    private static CarDrawer worn() {
        return afterDraws(517, 5, MOST - 1);
    }

    /** The 511th DRAWING has 27 PARTS, the FAULT 1 in PART 7, and the last PART 1, 17, 39, 218. */
    private static void behindDraws() {
        long[] last = {1, 17, 39, 218, 1};
        for (int what = 0; what < last.length; what++) {
            CHECKS.due("part(26, " + what + ")", worn().part(26, what), last[what]);
        }
        CHECKS.due("part(27, 0)", worn().part(27, 0), -1);
        CHECKS.due("part(26, 5)", worn().part(26, 5), -2);
        CHECKS.due("planted(0)", worn().planted(0), 1);
        CHECKS.due("planted(1)", worn().planted(1), 7);
        CHECKS.due("planted(2)", worn().planted(2), 63);
        CHECKS.due("planted(3)", worn().planted(3), -2);
        CHECKS.due("shorter()", worn().shorter(), 27);
        CHECKS.due("left(26)", worn().left(26), 26);
        CHECKS.due("left(27)", worn().left(27), -1);
        CHECKS.due("minimal()", worn().minimal(), false);
        CHECKS.due("answers()", worn().answers(), false);
        CHECKS.due("same(517, 5, 20)", worn().same(517, 5, 20), true);
        CHECKS.due("same(518, 5, 20)", worn().same(518, 5, 20), false);
        CHECKS.due("draw(6, 20)", worn().draw(6, 20), -1);
        CHECKS.due("letter(-1)", worn().letter(-1), -1);
        CHECKS.due("letter(1)", worn().letter(1), 32);
    }

    private static void refusals() {
        CarDrawer x = new CarDrawer(12);
        for (int i = 0; i < MOST - 1; i++) {
            x.draw(i % 2 == 0 ? 6 : 2, i % 2 == 0 ? 20 : 21);
        }
        CHECKS.due("draw(2, 20)", x.draw(2, 20), 40);
    }

    private static void sames() {
        CarDrawer x = new CarDrawer(12);
        for (int i = 0; i < MOST; i++) {
            CHECKS.due("same, call " + i, x.same(12 + i % 2, i % 6, 20), i % 2 == 0);
        }
    }

    private static void shorters() {
        for (int kind = 0; kind < 6; kind++) {
            CarDrawer x = new CarDrawer(kind);
            Model model = new Model(kind);
            for (int i = 0; i < 60; i++) {
                x.verdict(i, true);
                model.verdict(i, true);
            }
            for (int i = 0; i < 226; i++) {
                CHECKS.due("draw, pair " + i, x.draw(kind, 20), model.draw(kind, 20));
                CHECKS.due("shorter, pair " + i, x.shorter(), model.shorter());
            }
        }
    }

    private static void verdicts() {
        CarDrawer x = new CarDrawer(1);
        x.draw(4, 0);
        for (int i = 0; i < MOST - 2; i++) {
            x.verdict(i % 64, i < 448);
        }
        CHECKS.due("minimal()", x.minimal(), false);
    }

    private static void letters() {
        CarDrawer x = Checks.drawn(12, 2, 20);
        int ends = 0;
        for (int i = 0; i < MOST - 1; i++) {
            int letter = x.letter(i);
            ends += letter == 10 ? 1 : 0;
            CHECKS.due("letter(" + i + ") is there", letter != -1, i < 505);
        }
        CHECKS.due("lines", ends, 40);
    }
}
