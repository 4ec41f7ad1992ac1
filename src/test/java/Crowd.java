/**
 * Brings an object to a number of MESSAGES near 2,000: one NODE makes UPDATE behind UPDATE, and the
 * answers that come too late for it are left on their way. That takes more than 512 calls, whose
 * answers the document leaves free; but the program does not count its calls, so that its limits
 * can be seen.
 */
final class Crowd {
    static final int FULL = 2000;

    private Crowd() { }

    /** So many MESSAGES are on their way then; this NODE is the one that works for it. */
    static void fill(SharedShelf x, int worker, int messages) {
        int n = x.count(0);
        for (int k = 0; k < 100_000 && step(x, worker); k++) {
            if (x.count(2) > FULL) {
                throw new IllegalStateException("there are more than 2,000");
            }
        }
        drop(x, x.node(worker, 1) == 0 ? FULL - n : FULL - n + 1);
        if (!step(x, worker) || x.count(2) != FULL) {
            throw new IllegalStateException("there are " + x.count(2) + " instead of 2,000");
        }
        drop(x, messages);
    }

    private static boolean step(SharedShelf x, int worker) {
        if (x.node(worker, 1) == 0) {
            return x.update(worker, 0, 1, 0) != -1;
        }
        return x.deliver(Steps.findOfRound(x, worker)) != -1;
    }

    /** Late answers come, which lead to nothing, until so many MESSAGES are left. */
    static void drop(SharedShelf x, int messages) {
        for (int k = 0; k < FULL && x.count(2) > messages; k++) {
            x.deliver(Steps.findLate(x));
        }
        if (x.count(2) != messages) {
            throw new IllegalStateException("there are " + x.count(2) + " instead of " + messages);
        }
    }
}
