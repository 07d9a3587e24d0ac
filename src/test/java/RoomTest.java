import java.lang.management.ManagementFactory;

/**
 * All calls of a run share one room, of some 600,000 objects and 7.3 million elements: so a full
 * run of the dearest calls may make little more than its texts.
 */
public final class RoomTest {
    private static final int CALLS = 512;
    private static final long BYTES = 4_000_000;

    private RoomTest() {
    }

    public static void main(String[] args) {
        Check check = new Check();
        for (int kind = 0; kind < 6; kind++) {
            long bytes = runOf(kind, new long[1]);
            check.part("kind " + kind + ": " + bytes + " bytes");
            check.due(true, bytes < BYTES);
        }
        check.finish();
    }

    private static long runOf(int kind, long[] kept) {
        com.sun.management.ThreadMXBean threads =
                (com.sun.management.ThreadMXBean) ManagementFactory.getThreadMXBean();
        long before = threads.getThreadAllocatedBytes(Thread.currentThread().getId());
        Poolward x = new Poolward();
        x.chances(0, 1, 29, 29, 59);
        x.chances(1, 1, 29, 30, 60);
        x.chances(2, 1, 29, 23, 53);
        for (int i = 0; i < 5; i++) {
            x.person(i % 3, 1 + i, 5 + i, 12 - i);
        }
        for (int i = 8; i < CALLS; i++) {
            kept[0] += call(x, kind, i);
        }
        return threads.getThreadAllocatedBytes(Thread.currentThread().getId()) - before;
    }

    private static long call(Poolward x, int kind, int i) {
        boolean isChange = i % 2 == 0;
        switch (kind) {
            case 0: return x.digest();
            case 1: return x.law(31, 0).length();
            case 2: return x.isSound() ? 1 : 0;
            case 3: return isChange ? x.interest(i % 51) : x.putBy(0, 0, false).length();
            case 4: return isChange ? x.loss(i % 5, 1, i % 13) : x.least(i % 12, 3, 1, 99);
            default: return isChange ? x.year(i % 3, 1, 2) : x.undo();
        }
    }
}
