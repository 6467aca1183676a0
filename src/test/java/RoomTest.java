import java.lang.management.ManagementFactory;

/** The room that dear runs of 512 calls take: what a turn makes is used again in the next one. */
public final class RoomTest {
    private static final com.sun.management.ThreadMXBean THREADS =
            (com.sun.management.ThreadMXBean) ManagementFactory.getThreadMXBean();

    public static void main(String[] args) {
        room("jobs", 1 << 18, "t 0 0; q 0 1; q 0 1; q 0 1; q 0 1; j 0 1", "w 0");
        room("runs that end", 1 << 18, "t 0 0; q 0 1; q 0 1; q 0 1; q 0 1; q 0 1; q 0 1; q 0 1; q 0 1", "w 0; x 0");
        room("handlers", 1 << 18, "t 0 0; b 0 1; b 0 1; b 0 1; b 0 1; j 0 1");
        room("waits", 1 << 18, "t 0 0; q 0 1; w 0; j 0 1", "w 0; j 0 0");
        room("calls that wait", 1 << 18, "t 0 0; c 0 1; w 0; b 0 4; j 0 1", "w 0; T 0");
        room("stopped jobs", 1 << 18, "t 0 0; q 0 1; j 0 1", "w 0; j 0 0");
        // A number each for 1.4 million timers, which are kept.
        room("timers", 1 << 24, "t 0 0; t 0 0; t 0 0; t 0 0; t 0 0; t 0 0; t 0 0; t 0 0; t 0 0; t 0 0; t 0 0; t 0 0;"
                + "t 0 0; t 0 0; t 0 0; j 0 0");
        Check.end();
    }

    private static void room(String what, long most, String... functions) {
        EventloopRow row = new EventloopRow();
        for (int i = 0; i < functions.length; i++) {
            row.addFunction();
        }
        for (int i = 0; i < functions.length; i++) {
            Code.fill(row, i, functions[i]);
        }
        row.post(0);
        row.turn(10);
        long thread = Thread.currentThread().getId();
        long before = THREADS.getThreadAllocatedBytes(thread);
        int turns = 0;
        for (int i = 0; i < 480; i++) {
            turns += row.turn(10);
        }
        long bytes = THREADS.getThreadAllocatedBytes(thread) - before;
        Check.same(what + ": turns", turns, 4800);
        Check.yes(what + ": " + bytes + " bytes", bytes <= most);
        Check.yes(what + ": isSound", row.isSound());
    }
}
