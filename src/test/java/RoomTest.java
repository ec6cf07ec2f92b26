import com.sun.management.ThreadMXBean;
import java.lang.management.ManagementFactory;

/** All calls of a run live in one room: a new drawer is small, and its 512 calls make nothing more. */
final class RoomTest {
    private static final Checks CHECKS = new Checks();
    private static final ThreadMXBean THREADS = (ThreadMXBean) ManagementFactory.getThreadMXBean();
    // An object of any sort takes 16 bytes, so one a call would be 8192.
    private static final long NEARLY_NOTHING = 4096;

    public static void main(String[] args) {
        // What the machine itself makes when it meets a class or a call for the first time is not counted.
        calls(new CarDrawer(1));
        made();
        CHECKS.test("512 calls make no object", RoomTest::callsMakeNothing);
        CHECKS.test("a thousand drawers take 6 megabytes at most", RoomTest::drawersAreSmall);
        CHECKS.end();
    }

    private static long made() {
        return THREADS.getThreadAllocatedBytes(Thread.currentThread().getId());
    }

    private static void calls(CarDrawer x) {
        for (int i = 0; i < 64; i++) {
            x.verdict(i, true);
        }
        for (int i = 0; i < 44; i++) {
            x.draw(i % 6, 20);
            x.part(i, i % 5);
            x.letter(i * 10);
            x.planted(i % 4);
            x.left(i);
            x.minimal();
            x.answers();
            x.same(i, i % 7, 20);
            x.shorter();
            x.letter(5);
        }
    }

    private static void callsMakeNothing() {
        CarDrawer x = new CarDrawer(12);
        long before = made();
        calls(x);
        CHECKS.due("504 calls made little", made() - before < NEARLY_NOTHING, true);
    }

    private static void drawersAreSmall() {
        CarDrawer[] kept = new CarDrawer[1000];
        long before = made();
        for (int i = 0; i < kept.length; i++) {
            kept[i] = new CarDrawer(i);
        }
        CHECKS.due("a thousand drawers are small", made() - before < 6_000_000, true);
        CHECKS.due("the last of them draws", kept[999].draw(0, 0), 1);
    }
}
