import java.lang.management.ManagementFactory;
import java.util.function.ToIntFunction;

/** All calls of a run live in one room, so 512 calls of the dearest methods take only a small part of it. */
public final class RoomTest {
    private static final int CALLS = 512;
    // The room is some 7.3 million fields and elements; a tenth of it, four bytes each.
    private static final long MOST_BYTES = 2_900_000;

    public static void main(String[] args) {
        room("outIn", clock -> clock.outIn(3));
        room("tellable", clock -> clock.tellable(7, 5));
        room("fewestFlames", clock -> clock.fewestFlames(7, 360));
        room("entry", clock -> clock.entry(0, 2));
        room("run", clock -> clock.run(200));
        room("goBack", clock -> clock.goBack(0));
        room("keep and undo", clock -> clock.undo() + clock.keep(1) + clock.dropRules());
        room("orders", clock -> clock.append('n') + clock.firstError() + clock.clearBuffer());
        Check.end("RoomTest");
    }

    private static void room(String what, ToIntFunction<CordClock> call) {
        used(call);
        long bytes = used(call);
        System.out.println("RoomTest: " + CALLS + " calls of " + what + " take " + bytes + " bytes");
        Check.due("room for " + what, bytes <= MOST_BYTES ? 1 : 0, 1);
    }

    private static long used(ToIntFunction<CordClock> call) {
        com.sun.management.ThreadMXBean threads = (com.sun.management.ThreadMXBean) ManagementFactory.getThreadMXBean();
        long before = threads.getCurrentThreadAllocatedBytes();
        CordClock clock = new CordClock();
        for (int i = 0; i < 4; i++) {
            clock.cord(6, 60 - i);
        }
        for (int i = 0; i < 3; i++) {
            clock.rule(i, i + 1, true);
        }
        clock.light(0, true);
        clock.keep(0);
        for (int i = 0; i < CALLS; i++) {
            call.applyAsInt(clock);
        }
        return threads.getCurrentThreadAllocatedBytes() - before;
    }
}
