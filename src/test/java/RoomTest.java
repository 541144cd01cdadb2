import java.lang.management.ManagementFactory;

/** The room of a run: the dearest run of 512 calls makes nothing beyond what its constructor made. */
public final class RoomTest {
    public static void main(String[] args) {
        dearestRun();
        com.sun.management.ThreadMXBean threads =
            (com.sun.management.ThreadMXBean) ManagementFactory.getThreadMXBean();
        long before = threads.getCurrentThreadAllocatedBytes();
        dearestRun();
        long bytes = threads.getCurrentThreadAllocatedBytes() - before;
        System.out.println("bytes made by a run of 512 calls: " + bytes);
        Check.same("a run stays under 64 KiB", bytes < 65536, true);
        Check.end("RoomTest");
    }

    private static void dearestRun() {
        ReplayMachine m = Words.counting();
        for (int i = 0; i < 4; i++) {
            m.forth(1000);
        }
        for (int i = 0; i < 250; i++) {
            m.back(1000);
            m.go(3000);
        }
        Check.state("the end of the run", m, 0, 3000, 8, 32);
    }
}
