import java.util.Random;

/** Runs of 512 calls, of all promises mixed, against the model. */
final class ModelTest {
    private static final Checks CHECKS = new Checks();
    private static final int[] EDGES = {
        Integer.MIN_VALUE, -2, -1, 0, 1, 2, 3, 4, 5, 6, 20, 21, 40, 63, 64, Integer.MAX_VALUE};

    public static void main(String[] args) {
        Random random = new Random(20261115);
        for (int run = 0; run < 1500; run++) {
            long seed = run < 100 ? run - 50 : random.nextLong();
            run(seed, random, run % 4);
        }
        CHECKS.end();
    }

    /** Liberal runs say that nearly all stays, so that much is left out. */
    private static void run(long seed, Random random, int liberal) {
        CarDrawer x = new CarDrawer(seed);
        Model model = new Model(seed);
        for (int bits = 0; bits < 64; bits++) {
            boolean stays = random.nextInt(liberal + 2) != 0;
            x.verdict(bits, stays);
            model.verdict(bits, stays);
        }
        for (int i = 64; i < 512; i++) {
            call(x, model, seed, random);
        }
    }

    private static int number(Random random, int below) {
        return random.nextInt(8) == 0 ? EDGES[random.nextInt(EDGES.length)] : random.nextInt(below);
    }

    private static void call(CarDrawer x, Model model, long seed, Random random) {
        int a = number(random, 6);
        int b = number(random, 21);
        int c = number(random, 40);
        switch (random.nextInt(13)) {
            case 0 -> CHECKS.due("draw", x.draw(a, b), model.draw(a, b));
            case 1, 2, 3 -> CHECKS.due("part", x.part(c, a), model.part(c, a));
            case 4, 5 -> letters(x, model, random);
            case 6 -> CHECKS.due("planted", x.planted(a), model.planted(a));
            case 7 -> {
                int bits = number(random, 64);
                boolean stays = random.nextBoolean();
                x.verdict(bits, stays);
                model.verdict(bits, stays);
            }
            case 8 -> CHECKS.due("shorter", x.shorter(), model.shorter());
            case 9 -> CHECKS.due("left", x.left(c), model.left(c));
            case 10 -> CHECKS.due("minimal", x.minimal(), model.minimal());
            case 11 -> CHECKS.due("answers", x.answers(), model.answers());
            default -> {
                long other = random.nextBoolean() ? seed : random.nextLong();
                CHECKS.due("same", x.same(other, a, b), model.same(other, a, b));
            }
        }
    }

    private static void letters(CarDrawer x, Model model, Random random) {
        int i = number(random, random.nextBoolean() ? 20 : 600);
        CHECKS.due("letter(" + i + ")", x.letter(i), model.letter(i));
    }
}
