import com.sun.management.ThreadMXBean;
import java.lang.management.ManagementFactory;

/** All calls of a run live in one room: an object is small, and its calls make nothing. */
public final class RoomTest {
    private static final ThreadMXBean THREADS = (ThreadMXBean) ManagementFactory.getThreadMXBean();
    private static final char[] LONGEST = "RST:(A*A+A+1)*(B+1)*(C+1)?D>1/".toCharArray();
    private static final int MOST_BYTES = 32 * 1024;

    public static void main(String[] args) {
        Check check = new Check();
        long made = 0;
        long called = 0;
        // The first rounds load classes; the last one counts.
        for (int round = 0; round < 3; round++) {
            long start = THREADS.getCurrentThreadAllocatedBytes();
            JoinKeeper keeper = new JoinKeeper();
            long between = THREADS.getCurrentThreadAllocatedBytes();
            useAll(keeper);
            long end = THREADS.getCurrentThreadAllocatedBytes();
            made = between - start;
            called = end - between;
        }
        check.holds("a new object takes at most " + MOST_BYTES + " bytes, not " + made, made <= MOST_BYTES);
        check.due("bytes made by some 400 calls", called, 0);
        check.end();
    }

    private static void useAll(JoinKeeper keeper) {
        for (int i = 0; i < 10; i++) {
            keeper.clear();
            for (int place = 0; place < LONGEST.length - i % 2; place++) {
                keeper.sign(LONGEST[place]);
            }
            keeper.fault();
            keeper.define(i % 4);
            keeper.change(i % 3, i % 6, i % 5, i);
            keeper.answer(i % 4, i % 6);
            keeper.total(i % 4);
            keeper.count(i % 3, i % 6, i % 5);
            keeper.question(i % 4, i % 5);
            keeper.state(i % 3);
            keeper.drop(i % 5);
            keeper.back();
        }
    }
}
