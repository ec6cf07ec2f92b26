/** Two drawers that were treated alike, until one of them is asked what must change nothing. */
final class Twins {
    final CarDrawer asked;
    private final CarDrawer plain;

    private Twins(long seed) {
        asked = new CarDrawer(seed);
        plain = new CarDrawer(seed);
    }

    static Twins withoutDrawing(long seed) {
        return new Twins(seed);
    }

    /** Of five PARTS, with a FAULT, three are LEFT. */
    static Twins shortened() {
        Twins twins = new Twins(11);
        for (CarDrawer x : new CarDrawer[] {twins.asked, twins.plain}) {
            x.draw(5, 4);
            Checks.say(x, 0x9e9fe76541cc2813L);
            x.shorter();
        }
        return twins;
    }

    /** Compares what there is now, and then what THE STATE and THE VERDICT make of later calls. */
    void areStillAlike(Checks checks) {
        theDrawing(checks);
        for (int i = 0; i < 18; i++) {
            int size = 1 + i % 3;
            checks.due("a later draw", asked.draw(i % 6, size), plain.draw(i % 6, size));
            checks.due("a later planted(2)", asked.planted(2), plain.planted(2));
            checks.due("a later minimal()", asked.minimal(), plain.minimal());
            checks.due("a later shorter()", asked.shorter(), plain.shorter());
            checks.due("a later left(0)", asked.left(0), plain.left(0));
        }
    }

    private void theDrawing(Checks checks) {
        for (int what = 0; what < 3; what++) {
            checks.due("planted(" + what + ") as before", asked.planted(what), plain.planted(what));
        }
        checks.due("minimal() as before", asked.minimal(), plain.minimal());
        checks.due("answers() as before", asked.answers(), plain.answers());
        checks.due("parts as before", Checks.parts(asked), Checks.parts(plain));
        checks.due("left as before", Checks.left(asked), Checks.left(plain));
        checks.due("text as before", Checks.text(asked), Checks.text(plain));
        checks.due("shorter() as before", asked.shorter(), plain.shorter());
    }
}
