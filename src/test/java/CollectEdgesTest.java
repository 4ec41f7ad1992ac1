/**
 * The sentences of "Terms" on collects, VIEWS that are BORROWED and answers that are folded from a
 * VIEW which name a boundary case, each with a test of its own.
 */
public final class CollectEdgesTest {
    private static final Checks CHECKS = new Checks();
    private static final int LEAST = Integer.MIN_VALUE;
    private static final int MOST = Integer.MAX_VALUE;

    public static void main(String[] args) {
        greatestOfVectors();
        oneCollectIsNotEnough();
        anotherOperationsCollectIsNone();
        sameInAllNumbers();
        movedOnceIsNotEnough();
        movedTwice();
        movedTwiceInAnyCollects();
        theLeastThatMovedTwice();
        theLeastThatMovedIsNotEnough();
        twoUpdatesAreOneMove();
        movesOfAnotherOperation();
        firstCollectShowsNoMove();
        sameGoesAheadOfMoves();
        lastOneInCurrent();
        lenderThatIsNotDone();
        lenderThatIsDown();
        writtenBehindTheLog();
        whatAQueryLeaves();
        sum();
        greatest();
        whetherItIsInTheSet();
        howManyAre();
        greatestOfKey();
        howManyKeys();
        fromTheViewAlone();
        firstAndLastNumber();
        CHECKS.end();
    }

    private static void dueView(SharedShelf x, int operation, int... numbers) {
        for (int k = 0; k < numbers.length; k++) {
            CHECKS.due("view(" + operation + ", " + k + ")", x.view(operation, k), numbers[k]);
        }
    }

    /** Writes at NODES, one behind the other, then a collect of NODE 0. */
    private static void writesAndCollect(SharedShelf x, int... writers) {
        for (int writer : writers) {
            Steps.write(x, writer, 1);
        }
        Steps.throughCollect(x, 0);
    }

    private static SharedShelf queryAfterOneCollect(int nodes) {
        SharedShelf x = new SharedShelf(nodes);
        x.query(0, 10, 0);
        Steps.throughCollect(x, 0);
        return x;
    }

    private static void greatestOfVectors() {
        CHECKS.sentence("CURRENT is, number by number, the greatest of their VECTORS");
        SharedShelf x = new SharedShelf(3);
        for (int node = 1; node <= 2; node++) {
            x.update(node, 0, 1, 0);
            Steps.throughPhases(x, node, 4);
        }
        Steps.ask(x, 1, 1);
        Steps.ask(x, 2, 2);
        CHECKS.due("1 keeps of 2", x.kept(1, 2), 0);
        CHECKS.due("2 keeps of 1", x.kept(2, 1), 0);
        x.query(0, 10, 0);
        Steps.phaseWith(x, 0, 1, 2);
        int store = Steps.findAsk(x, 0, 0, 2);
        CHECKS.due("of 0", x.vector(store, 0), 0);
        CHECKS.due("of 1", x.vector(store, 1), 1);
        CHECKS.due("of 2", x.vector(store, 2), 1);
    }

    private static void oneCollectIsNotEnough() {
        CHECKS.sentence("If there was one ahead of it in this OPERATION");
        SharedShelf x = queryAfterOneCollect(3);
        CHECKS.due("DONE, though all was 0 at first too", x.told(1, 4), 0);
        CHECKS.due("phase", x.node(0, 1), 1);
        CHECKS.due("collects", x.told(1, 7), 1);
        CHECKS.due("VIEW", x.view(1, 0), -1);
        Steps.throughCollect(x, 0);
        CHECKS.due("DONE", x.told(1, 4), 1);
        CHECKS.due("collects", x.told(1, 7), 2);
    }

    private static void anotherOperationsCollectIsNone() {
        CHECKS.sentence("one ahead of it in this OPERATION (not in another of the NODE)");
        SharedShelf x = new SharedShelf(3);
        Steps.write(x, 1, 1);
        for (int operation = 2; operation <= 3; operation++) {
            x.query(0, 10, 0);
            Steps.throughCollect(x, 0);
            CHECKS.due("DONE behind one collect", x.told(operation, 4), 0);
            Steps.throughCollect(x, 0);
            CHECKS.due("DONE behind two", x.told(operation, 4), 1);
        }
    }

    private static void sameInAllNumbers() {
        CHECKS.sentence("and its CURRENT was the same: the VIEW is that");
        for (int n : new int[] {3, 4, 31}) {
            for (int changed : new int[] {1, n / 2, n - 1}) {
                SharedShelf x = queryAfterOneCollect(n);
                writesAndCollect(x, changed);
                CHECKS.due("DONE, though the number of " + changed + " changed", x.told(1, 4), 0);
                Steps.throughCollect(x, 0);
                CHECKS.due("DONE", x.told(1, 4), 1);
                CHECKS.due("VIEW of " + changed, x.view(1, changed), 1);
                CHECKS.due("BORROWED from", x.told(1, 8), -1);
                CHECKS.due("BORROWED", x.count(8), 0);
            }
        }
    }

    private static void movedOnceIsNotEnough() {
        CHECKS.sentence("Else the next collect begins (COLLECT to all)");
        SharedShelf x = queryAfterOneCollect(5);
        for (int writer = 1; writer <= 4; writer++) {
            writesAndCollect(x, writer);
            CHECKS.due("collects", x.told(1, 7), writer + 1);
            CHECKS.due("DONE", x.told(1, 4), 0);
            CHECKS.due("phase", x.node(0, 1), 1);
        }
        Steps.throughCollect(x, 0);
        CHECKS.due("collects", x.told(1, 7), 6);
        CHECKS.due("the most of all", x.count(9), 6);
        CHECKS.due("BORROWED from", x.told(1, 8), -1);
        dueView(x, 1, 0, 1, 1, 1, 1);
    }

    private static void movedTwice() {
        CHECKS.sentence("if one has MOVED twice: the VIEW is BORROWED");
        SharedShelf x = queryAfterOneCollect(3);
        writesAndCollect(x, 2);
        CHECKS.due("DONE behind one move", x.told(1, 4), 0);
        writesAndCollect(x, 2);
        CHECKS.due("DONE behind two", x.told(1, 4), 1);
        CHECKS.due("BORROWED from", x.told(1, 8), 2);
        CHECKS.due("BORROWED", x.count(8), 1);
        dueView(x, 1, 0, 0, 1);
    }

    private static void movedTwiceInAnyCollects() {
        CHECKS.sentence("each NODE whose number changed has MOVED once more");
        SharedShelf x = queryAfterOneCollect(4);
        writesAndCollect(x, 3);
        writesAndCollect(x, 1);
        writesAndCollect(x, 2);
        CHECKS.due("DONE", x.told(1, 4), 0);
        writesAndCollect(x, 3);
        CHECKS.due("BORROWED from", x.told(1, 8), 3);
        dueView(x, 1, 0, 1, 1, 1);
    }

    private static void theLeastThatMovedTwice() {
        CHECKS.sentence("if one has MOVED twice (the least such)");
        SharedShelf x = queryAfterOneCollect(5);
        writesAndCollect(x, 4, 3, 2);
        writesAndCollect(x, 2, 3, 4);
        CHECKS.due("BORROWED from", x.told(1, 8), 2);
        dueView(x, 1, 0, 0, 1, 1, 1);
        CHECKS.due("BORROWED, one VIEW", x.count(8), 1);
    }

    private static void theLeastThatMovedIsNotEnough() {
        CHECKS.sentence("(the least such: of those that MOVED twice)");
        SharedShelf x = queryAfterOneCollect(5);
        writesAndCollect(x, 4);
        writesAndCollect(x, 1, 4);
        CHECKS.due("BORROWED from", x.told(1, 8), 4);
        dueView(x, 1, 0, 1, 0, 0, 1);
    }

    private static void twoUpdatesAreOneMove() {
        CHECKS.sentence("MOVED once more (once a collect, however far)");
        SharedShelf x = queryAfterOneCollect(3);
        writesAndCollect(x, 1, 1, 1);
        CHECKS.due("DONE", x.told(1, 4), 0);
        Steps.throughCollect(x, 0);
        CHECKS.due("BORROWED from", x.told(1, 8), -1);
        dueView(x, 1, 0, 3, 0);
    }

    private static void movesOfAnotherOperation() {
        CHECKS.sentence("If there was one ahead of it in this OPERATION .. MOVED");
        for (int asker = 0; asker < 3; asker++) {
            int mover = (asker + 1) % 3;
            SharedShelf x = new SharedShelf(3);
            for (int operation = 1; operation <= 5; operation += 2) {
                x.query(asker, 10, 0);
                Steps.throughCollect(x, asker);
                Steps.write(x, mover, 1);
                Steps.throughCollect(x, asker);
                CHECKS.due("DONE behind one move", x.told(operation, 4), 0);
                Steps.throughCollect(x, asker);
                CHECKS.due("BORROWED from", x.told(operation, 8), -1);
                CHECKS.due("VIEW", x.view(operation, mover), (operation + 1) / 2);
            }
        }
    }

    private static void firstCollectShowsNoMove() {
        CHECKS.sentence("Else, if there was one, each NODE whose number changed has MOVED once more");
        SharedShelf x = new SharedShelf(3);
        x.query(0, 10, 0);
        Steps.throughOperation(x, 0);
        Steps.write(x, 1, 1);
        x.query(0, 10, 0);
        Steps.throughCollect(x, 0);
        writesAndCollect(x, 1);
        CHECKS.due("DONE behind one move", x.told(3, 4), 0);
        Steps.throughCollect(x, 0);
        CHECKS.due("BORROWED from", x.told(3, 8), -1);
        dueView(x, 3, 0, 2, 0);
    }

    private static void sameGoesAheadOfMoves() {
        CHECKS.sentence("its CURRENT was the same: the VIEW is that. Else ..");
        SharedShelf x = queryAfterOneCollect(3);
        writesAndCollect(x, 1);
        Steps.throughPhase(x, 0);
        Steps.write(x, 1, 1);
        Steps.throughPhase(x, 0);
        CHECKS.due("what came behind CURRENT is no move", x.told(1, 8), -1);
        CHECKS.due("DONE", x.told(1, 4), 1);
        dueView(x, 1, 0, 1, 0);
    }

    /** The lender writes once more behind the REPLIES, which have not that one. */
    private static void lastOneInCurrent() {
        CHECKS.sentence("that of the UPDATE that is the last one of its SEGMENT in CURRENT");
        SharedShelf x = queryAfterOneCollect(3);
        writesAndCollect(x, 1);
        Steps.write(x, 1, 1);
        Steps.write(x, 2, 1);
        Steps.write(x, 1, 1);
        Steps.throughPhase(x, 0);
        Steps.write(x, 2, 1);
        Steps.write(x, 1, 1);
        Steps.throughPhase(x, 0);
        CHECKS.due("BORROWED from", x.told(1, 8), 1);
        // Of 1 CURRENT has three; the third one's VIEW has the two ahead of it and the first of 2.
        dueView(x, 1, 0, 2, 1);
    }

    private static void lenderThatIsNotDone() {
        CHECKS.sentence("that of the UPDATE (WRITTEN, not DONE yet)");
        SharedShelf x = queryAfterOneCollect(3);
        writesAndCollect(x, 1);
        int lender = x.update(1, 0, 1, 0);
        Steps.throughPhases(x, 1, 4);
        Steps.ask(x, 1, 0);
        Steps.throughCollect(x, 0);
        CHECKS.due("the lender is DONE", x.told(lender, 4), 0);
        CHECKS.due("DONE", x.told(1, 4), 1);
        CHECKS.due("BORROWED from", x.told(1, 8), 1);
        dueView(x, 1, 0, 1, 0);
    }

    private static void lenderThatIsDown() {
        CHECKS.sentence("that of the UPDATE (of a NODE that is DOWN)");
        SharedShelf x = queryAfterOneCollect(5);
        writesAndCollect(x, 1);
        Steps.write(x, 1, 1);
        x.crash(1);
        Steps.throughCollect(x, 0);
        CHECKS.due("BORROWED from", x.told(1, 8), 1);
        dueView(x, 1, 0, 1, 0, 0, 0);
    }

    private static void writtenBehindTheLog() {
        CHECKS.sentence("An UPDATE is WRITTEN: behind its NODE's LOG; STORE with a VECTOR that has the LOG's length "
                + "for this NODE, 0 for others");
        SharedShelf x = new SharedShelf(3);
        Steps.write(x, 0, 1);
        Steps.write(x, 2, 1);
        for (int place = 1; place <= 3; place++) {
            int operation = x.update(1, 0, 1, 0);
            Steps.throughPhases(x, 1, 3);
            CHECKS.due("ahead of it", x.node(1, 5), place - 1);
            CHECKS.due("place", x.told(operation, 9), 0);
            Steps.throughPhase(x, 1);
            CHECKS.due("log", x.node(1, 5), place);
            CHECKS.due("place", x.told(operation, 9), place);
            for (int k = 0; k < 3; k++) {
                int store = Steps.findAsk(x, 1, k, x.node(1, 2));
                CHECKS.due("kind", x.message(store, 0), 2);
                CHECKS.due("VECTOR of 0", x.vector(store, 0), 0);
                CHECKS.due("VECTOR of 1", x.vector(store, 1), place);
                CHECKS.due("VECTOR of 2", x.vector(store, 2), 0);
            }
            CHECKS.due("its own VIEW has it not", x.view(operation, 1), place - 1);
            Steps.throughOperation(x, 1);
        }
    }

    private static void whatAQueryLeaves() {
        CHECKS.sentence("With its VIEW a QUERY has its answer and is DONE: IDLE");
        SharedShelf x = queryAfterOneCollect(3);
        int sent = x.count(3);
        Steps.throughPhase(x, 0);
        CHECKS.due("sent", x.count(3), sent + 3 + 3);
        sent = x.count(3);
        Steps.throughPhase(x, 0);
        CHECKS.due("sent: 3 ACKS, no STORE", x.count(3), sent + 3);
        CHECKS.due("phase", x.node(0, 1), 0);
        CHECKS.due("log", x.node(0, 5), 0);
        CHECKS.due("DONE in this MOMENT", x.told(1, 6), x.count(7));
    }

    private static int turn;

    private static void put(SharedShelf x, int kind, int a, int b) {
        turn = (turn + 1) % 3;
        x.update(turn, kind, a, b);
        x.calm(2000);
    }

    private static void dueAnswer(SharedShelf x, int kind, int a, long want) {
        turn = (turn + 2) % 3;
        int operation = x.query(turn, kind, a);
        x.calm(2000);
        CHECKS.due("query of kind " + kind + ", " + a, x.answer(operation), want);
    }

    private static void sum() {
        CHECKS.sentence("10 COUNTER: the sum of all (64 bits, going round)");
        SharedShelf x = new SharedShelf(3);
        dueAnswer(x, 10, 5, 0);
        put(x, 0, MOST, 9);
        dueAnswer(x, 10, 0, MOST);
        put(x, 0, 1, 9);
        dueAnswer(x, 10, 0, 2147483648L);
        put(x, 0, MOST, 9);
        put(x, 0, 1, 9);
        dueAnswer(x, 10, 0, 4294967296L);
        for (int k = 0; k < 4; k++) {
            put(x, 0, LEAST, 9);
        }
        dueAnswer(x, 10, 0, -4294967296L);
        put(x, 0, -1, 9);
        dueAnswer(x, 10, 0, -4294967297L);
    }

    private static void greatest() {
        CHECKS.sentence("11 GREATEST: the greatest of all, the least long of none");
        SharedShelf x = new SharedShelf(3);
        dueAnswer(x, 11, 0, Long.MIN_VALUE);
        put(x, 0, 5, 5);
        put(x, 2, 5, 5);
        put(x, 3, 5, 5);
        dueAnswer(x, 11, 5, Long.MIN_VALUE);
        put(x, 1, LEAST, 5);
        dueAnswer(x, 11, 0, LEAST);
        put(x, 1, -1, 5);
        put(x, 1, -2, 5);
        dueAnswer(x, 11, 0, -1);
        put(x, 1, MOST, 5);
        put(x, 1, MOST, 5);
        dueAnswer(x, 11, 0, MOST);
    }

    private static void whetherItIsInTheSet() {
        CHECKS.sentence("12 SET: whether a is in it (1, 0)");
        SharedShelf x = new SharedShelf(3);
        dueAnswer(x, 12, 0, 0);
        put(x, 2, 7, 8);
        put(x, 3, 9, 9);
        put(x, 2, 7, 8);
        dueAnswer(x, 12, 7, 1);
        for (int other : new int[] {6, 8, 9, -7, 0, LEAST, MOST}) {
            dueAnswer(x, 12, other, 0);
        }
        for (int edge : new int[] {0, -1, LEAST, MOST}) {
            put(x, 2, edge, 0);
            dueAnswer(x, 12, edge, 1);
        }
    }

    private static void howManyAre() {
        CHECKS.sentence("13 how many are");
        SharedShelf x = new SharedShelf(3);
        dueAnswer(x, 13, 0, 0);
        put(x, 3, 4, 4);
        dueAnswer(x, 13, 0, 0);
        int[] some = {4, 4, -4, LEAST, MOST, LEAST, 0, 4};
        int[] due = {1, 1, 2, 3, 4, 4, 5, 5};
        for (int k = 0; k < some.length; k++) {
            put(x, 2, some[k], k);
            dueAnswer(x, 13, 77, due[k]);
        }
    }

    private static void greatestOfKey() {
        CHECKS.sentence("14 MAP: the greatest b that key a has, the least long without one");
        SharedShelf x = new SharedShelf(3);
        dueAnswer(x, 14, 0, Long.MIN_VALUE);
        put(x, 2, 6, 6);
        dueAnswer(x, 14, 6, Long.MIN_VALUE);
        put(x, 3, 6, LEAST);
        dueAnswer(x, 14, 6, LEAST);
        dueAnswer(x, 14, 7, Long.MIN_VALUE);
        put(x, 3, 6, -3);
        put(x, 3, 6, -5);
        put(x, 3, 5, 100);
        dueAnswer(x, 14, 6, -3);
        put(x, 3, LEAST, MOST);
        dueAnswer(x, 14, LEAST, MOST);
        dueAnswer(x, 14, MOST, Long.MIN_VALUE);
    }

    private static void howManyKeys() {
        CHECKS.sentence("15 how many keys there are");
        SharedShelf x = new SharedShelf(3);
        dueAnswer(x, 15, 0, 0);
        put(x, 2, 4, 4);
        dueAnswer(x, 15, 0, 0);
        int[] keys = {4, 4, LEAST, MOST, LEAST, 0};
        int[] due = {1, 1, 2, 3, 3, 4};
        for (int k = 0; k < keys.length; k++) {
            put(x, 3, keys[k], -k);
            dueAnswer(x, 15, 77, due[k]);
        }
    }

    private static void fromTheViewAlone() {
        CHECKS.sentence("worked out from its VIEW alone: of each NODE k the first VIEW(k) UPDATES of its LOG");
        SharedShelf x = new SharedShelf(3);
        for (int a = 1; a <= 100; a *= 10) {
            Steps.write(x, 1, a);
        }
        x.query(0, 10, 0);
        Steps.throughCollect(x, 0);
        Steps.write(x, 1, 1000);
        Steps.throughCollect(x, 0);
        Steps.write(x, 2, 20000);
        Steps.write(x, 1, 50000);
        Steps.throughCollect(x, 0);
        dueView(x, 4, 0, 4, 1);
        CHECKS.due("with what it borrowed", x.answer(4), 21111);
        Steps.write(x, 0, 900000);
        CHECKS.due("behind later UPDATES", x.answer(4), 21111);
    }

    /**
     * OPERATION 1 is an UPDATE (a, b of the first row), 2 the QUERY, 3 an UPDATE (of the second row)
     * that began behind the QUERY, and was WRITTEN while it went on: its VIEW has both.
     */
    private static long ofFirstAndLast(int update, int[] first, int[] last, int query, int a) {
        SharedShelf x = new SharedShelf(3);
        x.update(1, update, first[0], first[1]);
        x.calm(2000);
        x.query(0, query, a);
        x.update(2, update, last[0], last[1]);
        Steps.throughOperation(x, 2);
        Steps.throughOperation(x, 0);
        dueView(x, 2, 0, 1, 1);
        return x.answer(2);
    }

    private static void firstAndLastNumber() {
        CHECKS.sentence("worked out from its VIEW alone (from the first number to the last)");
        int[] lesser = {5, -3};
        int[] greater = {6, 4};
        int[] greaterOfSameKey = {5, 9};
        CHECKS.due("sum", ofFirstAndLast(0, lesser, greater, 10, 0), 11);
        CHECKS.due("greatest, the last", ofFirstAndLast(1, lesser, greater, 11, 0), 6);
        CHECKS.due("greatest, the first", ofFirstAndLast(1, greater, lesser, 11, 0), 6);
        CHECKS.due("in the set, the last", ofFirstAndLast(2, lesser, greater, 12, 6), 1);
        CHECKS.due("in the set, the first", ofFirstAndLast(2, lesser, greater, 12, 5), 1);
        CHECKS.due("in the set, neither", ofFirstAndLast(2, lesser, greater, 12, 4), 0);
        CHECKS.due("how many, of two", ofFirstAndLast(2, lesser, greater, 13, 0), 2);
        CHECKS.due("how many, of one", ofFirstAndLast(2, lesser, greaterOfSameKey, 13, 0), 1);
        CHECKS.due("of a key, the last", ofFirstAndLast(3, lesser, greaterOfSameKey, 14, 5), 9);
        CHECKS.due("of a key, the first", ofFirstAndLast(3, greaterOfSameKey, lesser, 14, 5), 9);
        CHECKS.due("of a key, neither", ofFirstAndLast(3, lesser, greater, 14, 7), Long.MIN_VALUE);
        CHECKS.due("keys, of two", ofFirstAndLast(3, lesser, greater, 15, 0), 2);
        CHECKS.due("keys, of one", ofFirstAndLast(3, lesser, greaterOfSameKey, 15, 0), 1);
    }
}
