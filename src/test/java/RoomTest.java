import java.lang.management.ManagementFactory;

/** All calls of a run live in one room, so only the constructor and the first keep() of an image may make objects. */
public final class RoomTest {
    private static final com.sun.management.ThreadMXBean THREADS =
            (com.sun.management.ThreadMXBean) ManagementFactory.getThreadMXBean();
    private static final int CALLS = 400;

    public static void main(String[] args) {
        Check check = new Check("RoomTest");
        for (int method = 0; method < Calls.NAMES.length; method++) {
            // The first time, the machine itself may make something for a method that it has not met yet.
            bytesOf(method);
            check.yes(Calls.NAMES[method] + " makes no objects", bytesOf(method) < CALLS);
        }
        check.end();
    }

    private static long bytesOf(int method) {
        HistogramStairs made = new HistogramStairs();
        for (int i = 0; i < 30; i++) {
            made.insert(0, i * 7 % 51);
        }
        made.keep(0);
        made.keep(1);
        long before = THREADS.getCurrentThreadAllocatedBytes();
        for (int call = 0; call < CALLS; call++) {
            Calls.on(made, method, 1, call % 2 + 1, call % 9);
        }
        return THREADS.getCurrentThreadAllocatedBytes() - before;
    }

    private RoomTest() {
    }
}
