import java.lang.management.ManagementFactory;

/** All calls of a run live in one room, so a call makes next to nothing. */
public final class RoomTest {
    private static final int CALLS = 512;
    // The room is some 600,000 objects and arrays with 7.3 million fields and elements.
    private static final long MOST_BYTES = 400_000;

    public static void main(String[] args) {
        dearest();
        com.sun.management.ThreadMXBean threads = (com.sun.management.ThreadMXBean) ManagementFactory.getThreadMXBean();
        long before = threads.getCurrentThreadAllocatedBytes();
        int answers = dearest();
        long used = threads.getCurrentThreadAllocatedBytes() - before;
        System.out.println("RoomTest: " + CALLS + " calls of each take " + used + " bytes");
        Check.due("answers", answers != 0 ? 1 : 0, 1);
        Check.due("room", used <= MOST_BYTES ? 1 : 0, 1);
        Check.end("RoomTest");
    }

    private static int dearest() {
        CordClock clock = new CordClock();
        for (int i = 0; i < 4; i++) {
            clock.cord(6, 60 - i);
        }
        clock.rule(0, 1, true);
        clock.light(0, true);
        int sum = 0;
        for (int i = 0; i < CALLS; i++) {
            sum += clock.outIn(1) + clock.tellable(7, i) + clock.fewestFlames(7, i + 1) + clock.entry(0, 2);
            sum += clock.run(200) + clock.renew(0) + clock.light(0, true) + clock.keep(0) + clock.goBack(0);
            sum += clock.append('n') + clock.firstError() + clock.clearBuffer() + clock.undo();
        }
        return sum;
    }
}
