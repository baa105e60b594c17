import com.sun.management.ThreadMXBean;
import java.lang.management.ManagementFactory;

/** All calls of a run share one room, so the dearest ones must not make objects. */
public final class RoomTest {
    private static final long MOST_BYTES = 100000;

    private static final ThreadMXBean THREADS = (ThreadMXBean) ManagementFactory.getThreadMXBean();

    public static void main(String[] args) {
        Check check = new Check();
        runOfDearCalls();
        long before = bytes();
        runOfDearCalls();
        long used = bytes() - before;
        check.due("at most " + MOST_BYTES + " bytes for a run, and it took " + used, used <= MOST_BYTES, true);
        check.end("RoomTest");
    }

    private static long bytes() {
        return THREADS.getThreadAllocatedBytes(Thread.currentThread().getId());
    }

    private static void runOfDearCalls() {
        SquaringClock clock = new SquaringClock();
        clock.discriminant(999999999);
        for (int i = 0; i < 16; i++) {
            clock.begin(500);
            clock.work(500);
            clock.prove(500);
            clock.publish();
            clock.verify(i);
        }
        for (int i = 0; i < 3; i++) {
            clock.put(i, clock.form(15, i, 0), clock.form(15, i, 1));
        }
        for (int i = 0; i < 60; i++) {
            clock.test(15);
            clock.order(1000);
            clock.raise(0, Integer.MAX_VALUE, 2);
            clock.multiply(0, 1, 2);
            clock.reduce(1, 2);
        }
        clock.discriminant(49999);
        for (int i = 0; i < 100; i++) {
            clock.classes();
        }
    }
}
