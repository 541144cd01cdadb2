import java.lang.management.ManagementFactory;

/** A whole run of 512 calls: its last one is answered like the first, and it needs no room beyond its constructor's. */
public final class RoomTest {
    private static final int MOST_BYTES = 65536;

    public static void main(String[] args) {
        room();
        allCalls();
        Check.end("RoomTest");
    }

    private static void room() {
        Check.sentence("All calls of one run live in ONE room");
        dearestRun();
        com.sun.management.ThreadMXBean threads =
            (com.sun.management.ThreadMXBean) ManagementFactory.getThreadMXBean();
        long before = threads.getCurrentThreadAllocatedBytes();
        Used m = dearestRun();
        long bytes = threads.getCurrentThreadAllocatedBytes() - before;
        System.out.println("bytes made by a run of 512 calls: " + bytes);
        Check.same("a run stays under " + MOST_BYTES + " bytes", bytes < MOST_BYTES, true);
        Check.same("calls left", m.callsLeft(), 0);
    }

    /** Back as far as a call can go, and to the end again, as often as an object may be called. */
    private static Used dearestRun() {
        Used m = Words.counting(3000);
        while (m.callsLeft() > 1) {
            m.back(1000);
            if (m.callsLeft() > 1) {
                m.go(3000);
            }
        }
        m.state(0);
        return m;
    }

    private static void allCalls() {
        Check.sentence("An object is used for at most 512 calls after it has been made");
        Used m = new Used(0);
        m.poke(0, Words.jump(0));
        while (m.callsLeft() > 1) {
            Check.same("step", m.step(), 0);
        }
        Check.same("the 512th call", m.state(0), 510);
        Check.same("calls left", m.callsLeft(), 0);
    }
}
