import com.sun.management.ThreadMXBean;
import java.lang.management.ManagementFactory;

/** All calls of a run live in one room: behind the constructor no call makes an object. */
public final class RoomTest {
    private static final int LARGEST_OBJECT = 64 * 1024;

    public static void main(String[] args) {
        Due due = new Due("RoomTest");
        ThreadMXBean threads = (ThreadMXBean) ManagementFactory.getThreadMXBean();
        long thread = Thread.currentThread().getId();
        callAll(new SnoopFilter());
        threads.getThreadAllocatedBytes(thread);

        long before = threads.getThreadAllocatedBytes(thread);
        SnoopFilter x = new SnoopFilter();
        long made = threads.getThreadAllocatedBytes(thread) - before;
        due.holds("a new object takes " + made + " bytes", made <= LARGEST_OBJECT);

        before = threads.getThreadAllocatedBytes(thread);
        for (int round = 0; round < 16; round++) {
            callAll(x);
        }
        // Reckoned ahead of the row below, whose text is itself made when it is first used.
        long behind = threads.getThreadAllocatedBytes(thread) - before;
        due.is("bytes made by calls", behind, 0);
        due.close();
    }

    private static void callAll(SnoopFilter x) {
        x.set(0, 1);
        x.set(1, 6);
        x.read(0, 0);
        x.write(1, 0, 3);
        x.write(1, 9, 3);
        x.write(1, 18, 3);
        x.read(2, 24);
        x.drop(2, 24);
        x.forget(1);
        x.clearText();
        x.type('r');
        x.type('0');
        x.type('.');
        x.type('7');
        x.perform();
        x.stopped(0);
        x.keep();
        x.restore();
        x.undo();
        x.core(0, 0);
        x.held(0, 0, 0);
        x.counter(0, 0);
        x.bit(0, 0);
        x.line(0, 1);
        x.reason(0, 0);
        x.cost(0, 0, true, 2);
        x.vain(0);
        x.worst();
        x.count(0);
    }
}
