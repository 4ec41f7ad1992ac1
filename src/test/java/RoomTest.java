/**
 * The limits of "Terms" that promises 2 to 5 share: 2,000 MESSAGES and 511 OPERATIONS. Each sentence
 * is looked at on both sides of its limit, with the fewest NODES, an even number and the most.
 */
public final class RoomTest {
    private static final Checks CHECKS = new Checks();
    private static final int[] SIZES = {3, 4, 31};
    // The parts that NODES play: one is looked at, one fills the row, one writes or does nothing.
    private static final int SEEN = 0;
    private static final int WORKER = 1;
    private static final int OTHER = 2;

    interface Preparation {
        void make(SharedShelf x);
    }

    public static void main(String[] args) {
        beginsWithRoomOnly();
        comesWithRoomForAll();
        makesPlaceForOne();
        leadsToNothing();
        downNeedsNoRoom();
        calmStopsWithoutRoom();
        refusedOnesComeLater();
        operationsEnd();
        refusedOnesAreNotCounted();
        CHECKS.end();
    }

    private static SharedShelf crowd(int nodes, int messages, Preparation preparation) {
        SharedShelf x = new SharedShelf(nodes);
        preparation.make(x);
        Crowd.fill(x, WORKER, messages);
        return x;
    }

    private static void beginsWithRoomOnly() {
        for (int n : SIZES) {
            CHECKS.sentence("update: NONE: there is no room");
            SharedShelf x = crowd(n, Crowd.FULL - n + 1, y -> { });
            String before = State.of(x);
            CHECKS.due("update with one too many", x.update(OTHER, 3, 1, 1), -1);
            CHECKS.dueSame("update with one too many", State.of(x), before);
            CHECKS.sentence("query: NONE likewise");
            CHECKS.due("query with one too many", x.query(OTHER, 15, 1), -1);
            CHECKS.dueSame("query with one too many", State.of(x), before);
            CHECKS.sentence("MESSAGES are on their way in a row, 2,000 at most");
            Crowd.drop(x, Crowd.FULL - n);
            int next = x.count(5) + 1;
            CHECKS.due("update with room to the last place", x.update(OTHER, 3, 1, 1), next);
            CHECKS.due("on their way", x.count(2), 2000);
            CHECKS.due("receiver of the last", x.message(1999, 2), n - 1);
            CHECKS.due("sender of the last", x.message(1999, 1), OTHER);
            CHECKS.due("none behind it", x.message(2000, 0), -1);
            CHECKS.dueThrow("deliver(2000)", IndexOutOfBoundsException.class, () -> x.deliver(2000));
            SharedShelf y = crowd(n, Crowd.FULL - n, z -> { });
            next = y.count(5) + 1;
            CHECKS.due("query with room to the last place", y.query(OTHER, 15, 1), next);
            CHECKS.due("on their way", y.count(2), 2000);
        }
    }

    /** One MESSAGE too many, and the NODE's answer stays; with one fewer it comes, and the row is full. */
    private static void dueRoomForAll(String what, int kind, Preparation preparation) {
        for (int n : SIZES) {
            CHECKS.sentence("deliver: NONE, and it stays, without room for what it leads to");
            SharedShelf x = crowd(n, Crowd.FULL - n + 2, preparation);
            int i = Steps.findOfRound(x, SEEN);
            String before = State.of(x);
            CHECKS.due(what + ", one too many", x.deliver(i), -1);
            CHECKS.dueSame(what + ", one too many", State.of(x), before);
            CHECKS.sentence("An act by which more than 2,000 MESSAGES would be on their way does nothing");
            int round = x.node(SEEN, 2);
            Crowd.drop(x, Crowd.FULL - n + 1);
            CHECKS.due(what + ", room to the last place", x.deliver(Steps.findOfRound(x, SEEN)), kind);
            CHECKS.due("on their way", x.count(2), 2000);
            CHECKS.due("round", x.node(SEEN, 2), round + 1);
        }
    }

    private static void comesWithRoomForAll() {
        dueRoomForAll("REPLY that leads to STORES", 1, x -> {
            x.update(SEEN, 0, 1, 0);
            Steps.toTheBrink(x, SEEN);
        });
        dueRoomForAll("ACK of the first collect", 3, x -> {
            x.query(SEEN, 10, 0);
            Steps.throughPhases(x, SEEN, 1);
            Steps.toTheBrink(x, SEEN);
        });
        dueRoomForAll("ACK of a collect that shows a move", 3, x -> {
            x.query(SEEN, 10, 0);
            Steps.throughCollect(x, SEEN);
            Steps.write(x, OTHER, 1);
            Steps.throughPhases(x, SEEN, 1);
            Steps.toTheBrink(x, SEEN);
        });
        dueRoomForAll("ACK that leads to WRITING, as collects are alike", 3, x -> {
            x.update(SEEN, 0, 1, 0);
            Steps.throughPhases(x, SEEN, 3);
            Steps.toTheBrink(x, SEEN);
        });
        dueRoomForAll("ACK that leads to WRITING with a VIEW that is BORROWED", 3, x -> {
            x.update(SEEN, 0, 1, 0);
            toBorrow(x);
        });
    }

    /** The OPERATION of SEEN lacks the ACK by which its VIEW is BORROWED. */
    private static void toBorrow(SharedShelf x) {
        for (int times = 0; times < 2; times++) {
            Steps.throughCollect(x, SEEN);
            Steps.write(x, OTHER, 1);
        }
        Steps.throughPhases(x, SEEN, 1);
        Steps.toTheBrink(x, SEEN);
    }

    private static void makesPlaceForOne() {
        for (int n : SIZES) {
            CHECKS.sentence("it makes place for one");
            SharedShelf x = crowd(n, Crowd.FULL, y -> y.update(SEEN, 0, 1, 0));
            CHECKS.due("COLLECT with 2,000 on their way", x.deliver(0), 0);
            CHECKS.due("on their way", x.count(2), 2000);
            CHECKS.due("its REPLY is the last", x.message(1999, 0), 1);
            SharedShelf y = crowd(n, Crowd.FULL, z -> {
                z.update(SEEN, 0, 1, 0);
                Steps.throughPhases(z, SEEN, 1);
            });
            CHECKS.due("STORE with 2,000 on their way", y.deliver(Steps.findAsk(y, SEEN, OTHER, 2)), 2);
            CHECKS.due("on their way", y.count(2), 2000);
            CHECKS.due("its ACK is the last", y.message(1999, 0), 3);
        }
    }

    /** With 2,000 on their way an answer comes that leads to no other MESSAGE. */
    private static void dueNoRoomNeeded(String what, int kind, boolean ends, Preparation preparation) {
        for (int n : SIZES) {
            CHECKS.sentence("without room for what it leads to (it leads to nothing)");
            SharedShelf x = crowd(n, Crowd.FULL, preparation);
            int operation = x.node(SEEN, 3);
            CHECKS.due(what, x.deliver(Steps.findOfRound(x, SEEN)), kind);
            CHECKS.due(what + ": on their way", x.count(2), 1999);
            CHECKS.due(what + ": DONE", x.told(operation, 4), ends ? 1 : 0);
        }
    }

    private static void leadsToNothing() {
        dueNoRoomNeeded("ACK by which collects of a QUERY are alike", 3, true, x -> {
            x.query(SEEN, 10, 0);
            Steps.throughPhases(x, SEEN, 3);
            Steps.toTheBrink(x, SEEN);
        });
        dueNoRoomNeeded("ACK by which a QUERY borrows", 3, true, x -> {
            x.query(SEEN, 10, 0);
            toBorrow(x);
        });
        dueNoRoomNeeded("ACK that ends WRITING", 3, true, x -> {
            x.update(SEEN, 0, 1, 0);
            Steps.throughPhases(x, SEEN, 4);
            Steps.toTheBrink(x, SEEN);
        });
        dueNoRoomNeeded("REPLY that is not yet of more than half", 1, false, x -> {
            x.update(SEEN, 0, 1, 0);
            for (int k = 0; k < x.count(0); k++) {
                x.deliver(0);
            }
        });
        for (int n : SIZES) {
            SharedShelf x = crowd(n, Crowd.FULL, y -> { });
            CHECKS.due("an answer of another ROUND", x.deliver(Steps.findLate(x)) % 2, 1);
            CHECKS.due("on their way", x.count(2), 1999);
        }
    }

    private static void downNeedsNoRoom() {
        for (int n : SIZES) {
            CHECKS.sentence("MESSAGES to it are gone as they come (with 2,000 on their way)");
            SharedShelf x = crowd(n, Crowd.FULL, y -> {
                y.update(SEEN, 0, 1, 0);
                Steps.toTheBrink(y, SEEN);
            });
            CHECKS.due("REPLY that leads to STORES", x.deliver(Steps.findOfRound(x, SEEN)), -1);
            x.crash(SEEN);
            CHECKS.due("REPLY to one that is DOWN", x.deliver(Steps.findOfRound(x, SEEN)), 1);
            CHECKS.due("on their way", x.count(2), 1999);
            CHECKS.due("phase", x.node(SEEN, 1), 1);
        }
    }

    /** The first MESSAGES of the row are the COLLECTS of OTHER; the one behind them has no room. */
    private static SharedShelf stopsBehindCollects(int n) {
        return crowd(n, Crowd.FULL, x -> {
            x.query(OTHER, 10, 0);
            x.update(SEEN, 0, 1, 0);
            Steps.toTheBrink(x, SEEN);
        });
    }

    private static void calmStopsWithoutRoom() {
        for (int n : SIZES) {
            CHECKS.sentence("calm: The first MESSAGE comes, n times at most, as long as there is room: how often");
            SharedShelf x = stopsBehindCollects(n);
            int moment = x.count(7);
            CHECKS.due("calm(2000)", x.calm(2000), n);
            CHECKS.due("moment", x.count(7), moment + n);
            CHECKS.due("on their way", x.count(2), 2000);
            String before = State.of(x);
            CHECKS.due("calm(2000) again", x.calm(2000), 0);
            CHECKS.due("calm(1)", x.calm(1), 0);
            CHECKS.dueSame("calm without room", State.of(x), before);
            SharedShelf y = stopsBehindCollects(n);
            CHECKS.due("fewer than there is room for", y.calm(n - 1), n - 1);
            CHECKS.due("the last one that has room", y.calm(1), 1);
            CHECKS.due("the one without", y.calm(1), 0);
            Crowd.drop(y, Crowd.FULL - n + 1);
            CHECKS.due("with room for it", y.calm(1), 1);
            CHECKS.due("on their way", y.count(2), 2000);
        }
    }

    /** What is refused must leave no trace inside either: the course behind it is that of a twin without it. */
    private static void refusedOnesComeLater() {
        CHECKS.sentence("does nothing");
        Preparation borrows = x -> {
            x.query(SEEN, 10, 0);
            Steps.throughCollect(x, SEEN);
            Steps.write(x, OTHER, 1);
            Steps.throughPhases(x, SEEN, 1);
            Steps.toTheBrink(x, SEEN);
        };
        Preparation collects = x -> {
            x.query(SEEN, 10, 0);
            Steps.throughCollect(x, SEEN);
            Steps.write(x, OTHER, 1);
            Steps.toTheBrink(x, SEEN);
        };
        for (int n : SIZES) {
            for (Preparation preparation : new Preparation[] {borrows, collects}) {
                SharedShelf x = crowd(n, Crowd.FULL, preparation);
                SharedShelf twin = crowd(n, Crowd.FULL, preparation);
                for (int times = 0; times < 3; times++) {
                    CHECKS.due("no room", x.deliver(Steps.findOfRound(x, SEEN)), -1);
                }
                Crowd.drop(x, 1500);
                Crowd.drop(twin, 1500);
                Steps.throughOperation(x, SEEN);
                Steps.throughOperation(twin, SEEN);
                CHECKS.due("DONE", x.node(SEEN, 1), 0);
                CHECKS.dueSame("behind refusals", State.of(x), State.of(twin));
            }
        }
    }

    /** 511 OPERATIONS of three NODES, one behind the other. */
    private static SharedShelf manyOperations() {
        SharedShelf x = new SharedShelf(3);
        for (int k = 1; k <= 511; k++) {
            int got = k % 2 == 0 ? x.update(k % 3, 2, k, 0) : x.query(k % 3, 13, 0);
            CHECKS.due("operation " + k, got, k);
            x.calm(2000);
        }
        return x;
    }

    private static void operationsEnd() {
        CHECKS.sentence("OPERATIONS are numbered 1, 2, .. as they begin, 511 at most");
        SharedShelf x = manyOperations();
        CHECKS.due("began", x.count(5), 511);
        CHECKS.due("done", x.count(6), 511);
        CHECKS.due("the last one's answer", x.answer(511), 255);
        CHECKS.due("the last one's node", x.told(511, 0), 1);
        CHECKS.due("told(512, 0)", x.told(512, 0), -1);
        CHECKS.due("view(512, 0)", x.view(512, 0), -1);
        CHECKS.due("answer(512)", x.answer(512), 0);
        CHECKS.due("astray()", x.astray(), 0);
        CHECKS.sentence("update: NONE: there were 511");
        String before = State.of(x);
        CHECKS.due("update behind 511", x.update(0, 0, 1, 1), -1);
        CHECKS.dueSame("update behind 511", State.of(x), before);
        CHECKS.sentence("query: NONE likewise (there were 511)");
        CHECKS.due("query behind 511", x.query(1, 10, 1), -1);
        CHECKS.dueSame("query behind 511", State.of(x), before);
        CHECKS.sentence("IllegalArgumentException, IndexOutOfBoundsException behind 511");
        CHECKS.dueThrow("update of kind 4", IllegalArgumentException.class, () -> x.update(0, 4, 1, 1));
        CHECKS.dueThrow("query of kind 9", IllegalArgumentException.class, () -> x.query(0, 9, 1));
        CHECKS.dueThrow("update at 3", IndexOutOfBoundsException.class, () -> x.update(3, 0, 1, 1));
        CHECKS.dueThrow("query at 3", IndexOutOfBoundsException.class, () -> x.query(3, 10, 1));
        sumOfMany();
    }

    private static void sumOfMany() {
        CHECKS.sentence("10 COUNTER: the sum of all (64 bits, going round)");
        for (int a : new int[] {Integer.MAX_VALUE, Integer.MIN_VALUE}) {
            SharedShelf x = new SharedShelf(3);
            for (int k = 0; k < 510; k++) {
                x.update(k % 3, 0, a, 0);
                x.calm(2000);
            }
            x.query(0, 10, 0);
            x.calm(2000);
            CHECKS.due("510 times " + a, x.answer(511), 510L * a);
        }
    }

    private static void refusedOnesAreNotCounted() {
        CHECKS.sentence("511 at most (those that were refused are none)");
        SharedShelf x = new SharedShelf(3);
        x.crash(2);
        x.query(1, 10, 0);
        for (int k = 2; k <= 511; k++) {
            CHECKS.due("update at one that is DOWN", x.update(2, 0, 1, 1), -1);
            CHECKS.due("update where one is under way", x.update(1, 0, 1, 1), -1);
            CHECKS.due("update", x.update(0, 0, 1, 1), k);
            Steps.throughOperation(x, 0);
            Crowd.drop(x, Math.min(x.count(2), 100));
        }
        CHECKS.due("update behind 511", x.update(0, 0, 1, 1), -1);
        CHECKS.due("began", x.count(5), 511);
        CHECKS.due("done", x.count(6), 510);
        Steps.throughOperation(x, 1);
        CHECKS.due("what is under way still goes on", x.count(6), 511);
    }
}
