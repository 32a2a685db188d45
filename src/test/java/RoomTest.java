import java.lang.management.ManagementFactory;

/** The dearest run that 512 calls can make takes hardly more room than the object itself. */
public final class RoomTest {
    private static final long MOST_BYTES_MADE = 100_000;
    private static final long MOST_BYTES_LATER = 20_000;

    public static void main(String[] args) {
        Due due = new Due("RoomTest");
        dearestRun(new Menuline());
        long start = bytes();
        Menuline x = new Menuline();
        long made = bytes() - start;
        start = bytes();
        dearestRun(x);
        long later = bytes() - start;
        due.is("bytes for an object: " + made, made < MOST_BYTES_MADE, true);
        due.is("bytes for what it does later: " + later, later < MOST_BYTES_LATER, true);
        due.is("ways", x.ways(0, 1), 20 * 20000);
        for (int call = 0; call < 60; call++) {
            due.is("by replay " + call, x.placeByReplay(call), x.placeOf(call));
        }
        due.close();
    }

    /** Sixty calls that begin and cease to wait in each tick, for all the time there is. */
    private static void dearestRun(Menuline x) {
        x.queue(0, 0, 0, 1, 30, 1);
        x.queue(1, 1, 1, 1, 30, 2);
        x.queue(2, 2, 2, 1, 30, 0);
        x.signOn(0, 8);
        x.signOn(1, 16);
        for (int call = 0; call < 60; call++) {
            x.call(call % 3);
        }
        Due.passTo(x, 0, 20000);
    }

    private static long bytes() {
        com.sun.management.ThreadMXBean bean =
                (com.sun.management.ThreadMXBean) ManagementFactory.getThreadMXBean();
        return bean.getThreadAllocatedBytes(Thread.currentThread().getId());
    }
}
