import java.lang.management.ManagementFactory;

/** Room: what the constructor makes is used again, so the dearest calls make next to nothing. */
public final class RoomTest {
    /** What a run makes the planner and its text with, and these, are at most 512. */
    private static final int CALLS = 424;

    public static void main(String[] args) {
        run();
        long before = made();
        run();
        long bytes = made() - before;
        Check.holds("a run of dear calls made " + bytes + " bytes", bytes < 60000);
        Check.end();
    }

    private static long made() {
        com.sun.management.ThreadMXBean threads =
            (com.sun.management.ThreadMXBean) ManagementFactory.getThreadMXBean();
        return threads.getCurrentThreadAllocatedBytes();
    }

    private static void run() {
        MirrorPlanner x = Check.withCrew(5, 12);
        for (int i = 0; i < 4; i++) {
            x.addMirror(100, 20);
        }
        Check.type(x, "snow 0 1;wash 1 1;nights 2;dust 0 9 7");
        for (int i = 0; i < CALLS; i += 8) {
            x.addCleaning(i % 4, i % 3, i % 60);
            x.bestDay(0, 0, 60);
            x.bestPair(0, 0, 60);
            x.lossAhead(60, 0);
            x.runOrders();
            x.keep(0);
            x.undo();
            x.restore(0);
        }
    }
}
