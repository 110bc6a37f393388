import com.sun.management.ThreadMXBean;
import java.lang.management.ManagementFactory;

/** What the dearest runs make stays far below the room that all calls of one run share. */
public final class RoomTest {
    // The room has 7.3 million fields and elements; at four bytes each this is less than a tenth of it.
    private static final long MOST_BYTES = 2_000_000;
    private static final long MOST_BYTES_A_DESK = 40_000;
    private static final int CALLS = 512;

    public static void main(String[] args) {
        run();
        long before = allocated();
        int calls = run();
        long used = allocated() - before;
        Check.due("calls", CALLS, calls);
        Check.due("bytes of the dearest run: " + used, true, used < MOST_BYTES);
        before = allocated();
        GuideDesk desk = new GuideDesk();
        used = allocated() - before;
        Check.due("bytes of a new object: " + used, true, used < MOST_BYTES_A_DESK);
        Check.due("it is there", 0, desk.read());
        Check.finish();
    }

    private static long allocated() {
        ThreadMXBean bean = (ThreadMXBean) ManagementFactory.getThreadMXBean();
        return bean.getThreadAllocatedBytes(Thread.currentThread().getId());
    }

    /** All facts, many showings, then surveys of ever another n, and plans of fourteen candidates. */
    private static int run() {
        GuideDesk desk = new GuideDesk();
        desk.channels(6);
        desk.source(1);
        int calls = 2;
        for (int i = 0; i < 300; i++, calls++) {
            int slot = i / 6 * 5;
            desk.notice(0, i % 6, slot, i < 6 ? 288 : slot + 1, 1 + i % 31, 1 + i / 31, true);
        }
        for (int i = 0; i < 21; i++, calls++) {
            // "never if live or live or ..." by its bytes, to the tape's twentieth row
            desk.feed(0x6c697665, 0x206f7220, 0x6c697665, 0x206f7220, 0x20202020);
        }
        desk.read();
        desk.feed(0x77697368, 0x20352069, 0x66207469, 0x746c6520, 0x3c20323b);
        desk.read();
        calls += 3;
        for (; calls < CALLS; calls++) {
            desk.plan(300 - calls % 7);
        }
        return calls;
    }
}
