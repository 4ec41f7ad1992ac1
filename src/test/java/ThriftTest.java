import com.sun.management.ThreadMXBean;
import java.lang.management.ManagementFactory;

/**
 * What the calls of a run make stays small, as all of it is counted: the rows are made with the object,
 * an OPERATION makes itself and its VIEW, and nothing else makes anything.
 */
public final class ThriftTest {
    private static final Checks CHECKS = new Checks();
    private static final ThreadMXBean THREADS = (ThreadMXBean) ManagementFactory.getThreadMXBean();
    private static final int NODES = 31;
    // Looking at what was made may make a little itself.
    private static final long SLACK = 2000;

    public static void main(String[] args) {
        SharedShelf x = making();
        run(x);
        tellings(x);
        CHECKS.end();
    }

    private static long made() {
        return THREADS.getCurrentThreadAllocatedBytes();
    }

    private static void dueMost(String what, long bytes, long most) {
        CHECKS.due(what + " made more than " + most + " bytes: " + bytes, bytes <= most + SLACK, true);
    }

    /** The first object of a class also makes what the machine needs of it, so the second one is looked at. */
    private static SharedShelf making() {
        SharedShelf first = new SharedShelf(NODES);
        long before = made();
        SharedShelf x = new SharedShelf(NODES);
        long bytes = made() - before;
        dueMost("an object of " + first.count(0) + " nodes", bytes, 4 * 80_000);
        return x;
    }

    private static void run(SharedShelf x) {
        run(new SharedShelf(NODES), 512);
        long before = made();
        run(x, 512);
        long bytes = made() - before;
        CHECKS.due("a run of many OPERATIONS", x.count(6) > 300, true);
        dueMost(x.count(5) + " OPERATIONS", bytes, x.count(5) * 4L * (20 + NODES + 10));
    }

    private static void run(SharedShelf x, int calls) {
        for (int c = 0; c < calls; c++) {
            int k = c % (NODES + 8);
            if (k >= NODES) {
                x.calm(2000);
            } else if (k % 3 == 0) {
                x.query(k, 10 + k % 6, k);
            } else {
                x.update(k, k % 4, k, c);
            }
        }
    }

    private static void tellings(SharedShelf x) {
        long sum = tellAll(x);
        long before = made();
        sum -= tellAll(x);
        long bytes = made() - before;
        dueMost("calls that only tell", bytes, 0);
        CHECKS.due("the same told again", sum, 0);
    }

    private static long tellAll(SharedShelf x) {
        long sum = x.astray();
        for (int i = -1; i <= 512; i++) {
            sum += x.answer(i) + x.count(i);
            for (int k = -1; k <= NODES; k++) {
                sum += x.told(i, k) + x.view(i, k) + x.node(k, i) + x.kept(k, i) + x.message(i, k) + x.vector(i, k);
            }
        }
        return sum;
    }
}
