import com.sun.management.ThreadMXBean;
import java.lang.management.ManagementFactory;

/** "An object is used for at most 512 calls": as many of the dearest calls there are, and the room that they take. */
final class LongUseTest {
    private static final int CALLS = 512;
    private static final int CALLS_A_ROUND = 17;
    /** What asking for it may take by itself; the smallest object in each round would be more. */
    private static final long SPARE_BYTES = 256;
    private static final Checks checks = new Checks();

    public static void main(String[] args) {
        theDearestPassAllTheTime();
        callsMakeNoObjects();
        checks.finish();
    }

    private static ReliefPasses largest() {
        ReliefPasses relief = new ReliefPasses(20, 20);
        relief.tool(3, ReliefPasses.BALL, 5);
        return relief;
    }

    private static void theDearestPassAllTheTime() {
        ReliefPasses relief = largest();
        long level = 20 * 19 + 19 * 20;
        for (int call = 2; call <= CALLS - 3; call++) {
            checks.due("rough(3, 1, 0), call " + call, relief.rough(3, 1, 0), 999);
        }
        checks.due("moves()", relief.moves(), 999 * 400);
        checks.due("way()", relief.way(), 999 * level + 998 * (38 + 1));
        checks.due("the last call", relief.sum(), 400);
    }

    /** Each call of the face, and each kind of merge: as many as CALLS_A_ROUND. */
    private static long callAll(ReliefPasses relief, int n) {
        long answers = relief.put(n % 20, n % 19, n) ? 1 : 0;
        answers += relief.tool(n % 4, n % 3, n % 6) ? 1 : 0;
        answers += relief.repeat(1 + n % 20, 20) + relief.merge(0, 0) + relief.merge(1 + n % 3, 7);
        answers += relief.stock(1000) + relief.rough(n % 4, 100, 1) + relief.fine(n % 4, 3);
        answers += relief.lift(n % 20, 3, n % 4) + relief.profile(n % 4, 1, 1) + relief.made(5, n % 20);
        answers += (relief.below() ? 1 : 0) + relief.rest(1, n) + relief.sum();
        return answers + relief.moves() + relief.move(n, n % 3) + relief.way();
    }

    /** All calls of a run live in one room: so an object makes all that it needs when it is made. */
    private static void callsMakeNoObjects() {
        if (!(ManagementFactory.getThreadMXBean() instanceof ThreadMXBean threads)
            || !threads.isThreadAllocatedMemorySupported()) {
            return;
        }
        long own = Thread.currentThread().getId();
        callAll(largest(), 1);
        ReliefPasses relief = largest();
        long answers = 0;
        long before = threads.getThreadAllocatedBytes(own);
        for (int n = 0; n < CALLS / CALLS_A_ROUND; n++) {
            answers += callAll(relief, n);
        }
        long taken = threads.getThreadAllocatedBytes(own) - before;
        checks.due("room taken by calls, " + taken + " bytes, is too much", taken > SPARE_BYTES, false);
        checks.due("the calls answered", answers != 0, true);
    }
}
