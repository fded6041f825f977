import com.sun.management.ThreadMXBean;
import java.lang.management.ManagementFactory;

/** The room that the dearest runs take: bytes that are made, for nothing is given back. */
public final class RoomTest {
    private static final long MOST_BYTES = 8_000_000;
    private static final int CALLS = 512;

    public static void main(String[] args) {
        ThreadMXBean threads = (ThreadMXBean) ManagementFactory.getThreadMXBean();
        if (!threads.isThreadAllocatedMemorySupported()) {
            System.out.println("RoomTest: this machine does not count what is made");
            return;
        }
        longTown();
        manyTexts();
        long thread = Thread.currentThread().getId();
        long before = threads.getThreadAllocatedBytes(thread);
        longTown();
        long between = threads.getThreadAllocatedBytes(thread);
        manyTexts();
        long behind = threads.getThreadAllocatedBytes(thread);
        System.out.println("a long town: " + (between - before) + " bytes, many texts: "
                + (behind - between) + " bytes");
        Check.due("room of a long town", between - before <= MOST_BYTES, true);
        Check.due("room of many texts", behind - between <= MOST_BYTES, true);
        Check.close("RoomTest");
    }

    /** All PERSONS and HOUSES, all DAYS, and sales of seven HOUSES. */
    private static void longTown() {
        FirmTown x = new FirmTown();
        int calls = 0;
        for (int i = 0; i < 60; i++, calls += 2) {
            x.person(2, 30);
            x.post(i, 10);
        }
        for (int i = 0; i < 30; i++, calls += 2) {
            x.house(2, 2);
            x.bid(i, i, 100);
        }
        for (int i = 0; i < 166; i++, calls++) {
            x.days(60);
        }
        for (; calls < CALLS; calls++) {
            x.sells(127);
        }
    }

    /** As many TEXTS with a FAULT at their ends as one run can feed. */
    private static void manyTexts() {
        FirmTown x = new FirmTown();
        for (int calls = 0; calls + 2 <= CALLS; calls += 2) {
            x.feed(0x6b656570, 0x3b6b6565, 0x703b6b65, 0x65703b6b, 0x6565703a);
            x.text(0);
        }
    }
}
