import java.lang.management.ManagementFactory;
import java.lang.management.ThreadMXBean;

/** The dearest calls make no objects: what would be is tried in rows that are used again. */
final class RoomTest {
    private static final int CALLS = 400;
    private static final long MOST_BYTES_A_CALL = 1000;

    private RoomTest() {
    }

    public static void main(String[] args) {
        ThreadMXBean threads = ManagementFactory.getThreadMXBean();
        if (threads instanceof com.sun.management.ThreadMXBean) {
            digestMakesNoObjects((com.sun.management.ThreadMXBean) threads);
        }
        Check.end();
    }

    private static void digestMakesNoObjects(com.sun.management.ThreadMXBean threads) {
        if (!threads.isThreadAllocatedMemorySupported()) {
            return;
        }
        threads.setThreadAllocatedMemoryEnabled(true);
        WheatRun x = full();
        long digest = x.digest();
        long thread = Thread.currentThread().getId();
        long before = threads.getThreadAllocatedBytes(thread);
        boolean isSame = true;
        for (int i = 0; i < CALLS; i++) {
            isSame &= x.digest() == digest;
        }
        long bytes = threads.getThreadAllocatedBytes(thread) - before;
        Check.due("digests are the same", isSame ? 1 : 0, 1);
        Check.due("bytes of " + CALLS + " digests: " + bytes + ", few", bytes < CALLS * MOST_BYTES_A_CALL ? 1 : 0, 1);
    }

    /** All that can be told is told, and every truck could sell within the hours that digest tries. */
    private static WheatRun full() {
        WheatRun x = new WheatRun();
        for (int i = 0; i < 8; i++) {
            x.field(i % 4, 0, 200, 10, 20);
            x.crop(i, 80, 15);
        }
        for (int i = 0; i < 4; i++) {
            x.combine(0, 5);
            x.truck(0);
            x.cut(i, i);
            x.fetch(i, i);
        }
        for (int i = 0; i < 3; i++) {
            x.elevator(0, 9999, 0, 23, 5, 40);
        }
        x.pass(10, 0, 60, 0);
        for (int i = 0; i < 4; i++) {
            x.haul(i, i % 3);
        }
        return x;
    }
}
