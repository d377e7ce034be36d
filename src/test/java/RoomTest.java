import com.sun.management.ThreadMXBean;
import java.lang.management.ManagementFactory;

/** All calls of one run live in one room: what they make is counted, and stays small. */
final class RoomTest {
    private static final Check CHECK = new Check("RoomTest");
    private static final ThreadMXBean THREADS = (ThreadMXBean) ManagementFactory.getThreadMXBean();

    public static void main(String[] args) {
        long id = Thread.currentThread().getId();
        run();
        long before = THREADS.getThreadAllocatedBytes(id);
        int answers = run();
        long bytes = THREADS.getThreadAllocatedBytes(id) - before;
        CHECK.that("the calls were answered", answers != 0);
        // About 11,000 elements of the object itself, at most 8 bytes each, and a small object for each give().
        CHECK.that("a run of 512 calls makes " + bytes + " bytes", bytes < 120000);
        CHECK.end();
    }

    private static int run() {
        InsidePlaces x = new InsidePlaces();
        x.building(3, 4, 6);
        x.sheet(0, 2, 240);
        x.sheet(1, 2, 240);
        x.put(0, 0);
        x.least(1);
        int sum = 0;
        for (int i = 0; i < 50; i++) {
            sum += x.best(0) + x.learn(0) + x.moved(0) + x.lead(20) + x.hear(0, i % 30, 1) + x.far(0, 71);
            sum += x.give(0, 0, i % 4, 0, i / 10) + x.sheet(1, i % 3, 240) + x.sure(1000000) + (int) x.digest();
        }
        return sum;
    }
}
