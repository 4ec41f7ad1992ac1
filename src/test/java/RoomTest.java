/**
 * Promises 2, 3, 4 and 5: 2,000 MESSAGES and 511 OPERATIONS at most. It takes more than 512 calls to
 * come as far as that here, whose answers the document leaves free; but the program does not count
 * its calls, so that its limits can be seen.
 */
public final class RoomTest {
    private static final Checks CHECKS = new Checks();

    public static void main(String[] args) {
        noRoom();
        operationsEnd();
        CHECKS.end();
    }

    /** All answers but the last one that is needed come to this NODE in its PHASE. */
    private static void toTheBrink(SharedShelf x, int node) {
        for (int k = 0; k < 100 && x.node(node, 4) < 15; k++) {
            x.deliver(Steps.findOfRound(x, node));
        }
    }

    private static void phases(SharedShelf x, int node, int times) {
        for (int k = 0; k < times; k++) {
            Steps.throughPhase(x, node);
        }
    }

    private static void write(SharedShelf x, int node) {
        x.update(node, 0, 1, 0);
        Steps.throughOperation(x, node);
    }

    /**
     * NODES 0 to 5 lack one answer each: 0 a REPLY, and it is the first of the row; 1 the ACK by
     * which two collects of a QUERY are alike; 2 that of WRITING; 3 that of the first collect of a
     * QUERY; 4 the ACK by which two collects of an UPDATE are alike; 5 that by which a QUERY borrows.
     */
    private static void lackOneAnswer(SharedShelf x) {
        x.update(0, 0, 1, 0);
        toTheBrink(x, 0);
        x.query(3, 10, 0);
        phases(x, 3, 1);
        x.query(1, 10, 0);
        phases(x, 1, 3);
        x.update(4, 0, 1, 0);
        phases(x, 4, 3);
        x.update(2, 0, 2, 0);
        phases(x, 2, 4);
        x.query(5, 10, 0);
        phases(x, 5, 2);
        write(x, 6);
        phases(x, 5, 2);
        write(x, 6);
        phases(x, 5, 1);
        for (int node = 1; node <= 5; node++) {
            toTheBrink(x, node);
        }
    }

    private static SharedShelf crowd() {
        SharedShelf x = new SharedShelf(31);
        lackOneAnswer(x);
        for (int node = 7; node < 30; node++) {
            x.update(node, 0, node, 0);
        }
        for (int k = 0; k < 200; k++) {
            int node = 7 + k % 23;
            toTheBrink(x, node);
            if (x.deliver(Steps.findOfRound(x, node)) == -1) {
                return x;
            }
        }
        CHECKS.due("the row fills", 0, 1);
        return x;
    }

    private static void endsWithoutRoom(SharedShelf x, int node) {
        int operation = x.node(node, 3);
        CHECKS.due("ACK by which one at " + node + " is DONE", x.deliver(Steps.findOfRound(x, node)), 3);
        CHECKS.due("it is", x.told(operation, 4), 1);
    }

    private static void noRoom() {
        SharedShelf x = crowd();
        CHECKS.due("more than 1,973 are on their way", x.count(2) > 1973, true);
        refusals(x);
        endsWithoutRoom(x, 1);
        endsWithoutRoom(x, 2);
        endsWithoutRoom(x, 5);
        CHECKS.due("BORROWED", x.count(8), 1);
        int first = brink(x);
        for (int k = 0; k < 100 && x.count(2) > 1970; k++) {
            CHECKS.due("no room", x.deliver(Steps.findOfRound(x, first)), -1);
            x.deliver(late(x));
        }
        CHECKS.due("room for it, and no more", x.deliver(Steps.findOfRound(x, first)) != -1, true);
        CHECKS.due("2,000 are on their way", x.count(2), 2000);
        refusals(x);
        int asks = Steps.findOfRound(x, first);
        CHECKS.due("what leads to one answer comes", x.deliver(asks) % 2, 0);
        CHECKS.due("2,000 are on their way", x.count(2), 2000);
        for (int k = 0; k < 100 && x.count(2) > 1969; k++) {
            CHECKS.due("update without room", x.update(30, 0, 1, 1), -1);
            CHECKS.due("query without room", x.query(30, 10, 1), -1);
            x.deliver(late(x));
        }
        CHECKS.due("update with room", x.update(30, 0, 1, 1), x.count(5));
        CHECKS.due("2,000 are on their way", x.count(2), 2000);
    }

    private static void refusals(SharedShelf x) {
        long before = state(x);
        CHECKS.due("REPLY that leads to STORES", x.deliver(Steps.findOfRound(x, 0)), -1);
        CHECKS.due("ACK that leads to the next collect", x.deliver(Steps.findOfRound(x, 3)), -1);
        CHECKS.due("ACK that leads to WRITING", x.deliver(Steps.findOfRound(x, 4)), -1);
        CHECKS.due("it is the first one", Steps.findOfRound(x, 0), 0);
        CHECKS.due("calm(2000) comes no further", x.calm(2000), 0);
        CHECKS.due("update without room", x.update(30, 0, 1, 1), -1);
        CHECKS.due("query without room", x.query(30, 10, 1), -1);
        CHECKS.due("nothing changes", state(x), before);
    }

    private static int brink(SharedShelf x) {
        for (int node = 7; node < 30; node++) {
            if (x.node(node, 4) == 15) {
                return node;
            }
        }
        return -1;
    }

    /** An answer of a ROUND that has gone by. */
    private static int late(SharedShelf x) {
        for (int i = 0; i < x.count(2); i++) {
            if (x.message(i, 0) % 2 == 1 && x.message(i, 3) < x.node(x.message(i, 2), 2)) {
                return i;
            }
        }
        return -1;
    }

    private static long state(SharedShelf x) {
        long sum = 17;
        for (int what = 0; what < 10; what++) {
            sum = sum * 31 + x.count(what);
        }
        for (int k = 0; k < 31; k++) {
            for (int what = 0; what < 6; what++) {
                sum = sum * 31 + x.node(k, what);
            }
        }
        for (int i = 0; i < x.count(2); i++) {
            for (int what = 0; what < 4; what++) {
                sum = sum * 31 + x.message(i, what);
            }
        }
        return sum;
    }

    private static void operationsEnd() {
        SharedShelf x = new SharedShelf(3);
        for (int k = 1; k <= 511; k++) {
            int got = k % 2 == 0 ? x.update(k % 3, 2, k, 0) : x.query(k % 3, 13, 0);
            CHECKS.due("operation " + k, got, k);
            x.calm(2000);
        }
        int moment = x.count(7);
        CHECKS.due("update behind 511", x.update(0, 0, 1, 1), -1);
        CHECKS.due("query behind 511", x.query(1, 10, 1), -1);
        CHECKS.due("began", x.count(5), 511);
        CHECKS.due("done", x.count(6), 511);
        CHECKS.due("moment", x.count(7), moment);
        CHECKS.due("the last one's answer", x.answer(511), 255);
        CHECKS.due("told(512, 0)", x.told(512, 0), -1);
        CHECKS.due("astray()", x.astray(), 0);
    }
}
