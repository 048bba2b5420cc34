import java.lang.management.ManagementFactory;

/** What is made, is made with the object: the dearest calls, 512 of them, make nothing. */
public final class RoomTest {
    private static final com.sun.management.ThreadMXBean THREADS =
        (com.sun.management.ThreadMXBean) ManagementFactory.getThreadMXBean();
    private static final long MOST_FOR_AN_OBJECT = 60_000;
    private static final long MOST_FOR_CALLS = 4_096;

    public static void main(String[] args) {
        // The first object and the first look at the count load classes, which counts too.
        dearest(filled());
        made();
        long before = made();
        StageRows x = filled();
        long behind = made();
        Check.due("an object is small", behind - before <= MOST_FOR_AN_OBJECT, true);
        before = made();
        long sum = dearest(x);
        behind = made();
        Check.due("calls make nothing", behind - before <= MOST_FOR_CALLS, true);
        Check.due("calls were made", sum > 0, true);
        Check.end();
    }

    private static long made() {
        return THREADS.getThreadAllocatedBytes(Thread.currentThread().getId());
    }

    private static StageRows filled() {
        StageRows x = new StageRows(7, 6);
        for (int move = 0; move < 6; move++) {
            x.exchange(move, move, move + 1);
        }
        for (int word = 0; word < 12; word++) {
            x.unit('a' + word % 6);
            x.unit('a' + word % 5);
            x.read();
        }
        for (int stage = 0; stage < 8; stage++) {
            x.stage();
            for (int word = 0; word < 12; word++) {
                x.use(stage, word);
            }
        }
        for (int piece = 0; piece < 7; piece++) {
            x.goal(0, piece, true);
        }
        return x;
    }

    private static long dearest(StageRows x) {
        long sum = 0;
        for (int i = 0; i < 50; i++) {
            sum += x.states(0) + x.fails(0) + x.run(0) + x.did(0);
            sum += x.setUp(0_210, 0_456, 9) + x.setUp(0_210, 0_123, 9);
            x.unit('[');
            x.unit(',');
            x.unit(']');
            sum += x.read();
        }
        return sum;
    }
}
