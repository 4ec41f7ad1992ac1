/**
 * The sentences of promises 1 to 6 (a new object, update, query, deliver, calm, crash) that name a
 * boundary case, each with a test of its own; where there is no room is looked at by RoomTest.
 */
public final class ActsEdgesTest {
    private static final Checks CHECKS = new Checks();
    private static final int LEAST = Integer.MIN_VALUE;
    private static final int MOST = Integer.MAX_VALUE;

    public static void main(String[] args) {
        numbersOfNodes();
        otherNumbersOfNodes();
        allUpAndIdle();
        updateAtDown();
        updateUnderWay();
        updateAtNoNode();
        updateOfNoKind();
        updateOfAnyNumbers();
        queryAtDown();
        queryUnderWay();
        queryAtNoNode();
        queryOfNoKind();
        whichThrowsFirst();
        deliverFirstAndLast();
        deliverNone();
        calmTimes();
        calmAsLongAsThereIsOne();
        calmOfWrongNumbers();
        crashOnce();
        crashAll();
        crashNoNode();
        CHECKS.end();
    }

    private static void numbersOfNodes() {
        CHECKS.sentence("1: So many NODES (3 .. 31)");
        for (int n = 3; n <= 31; n++) {
            SharedShelf x = new SharedShelf(n);
            CHECKS.due("count(0)", x.count(0), n);
            CHECKS.due("the last", x.node(n - 1, 0), 1);
            CHECKS.due("behind the last", x.node(n, 0), -1);
        }
    }

    private static void otherNumbersOfNodes() {
        CHECKS.sentence("1: others: 3");
        for (int n : new int[] {2, 1, 0, -1, -3, -31, 32, 33, 62, 2000, LEAST, LEAST + 3, MOST}) {
            SharedShelf x = new SharedShelf(n);
            CHECKS.due(n + ": count(0)", x.count(0), 3);
            CHECKS.due(n + ": the last", x.kept(2, 2), 0);
            CHECKS.due(n + ": behind the last", x.node(3, 0), -1);
            x.query(2, 10, 0);
            CHECKS.due(n + ": MESSAGES of a QUERY", x.calm(2000), 24);
        }
    }

    private static void allUpAndIdle() {
        CHECKS.sentence("1: all UP and IDLE");
        for (int n : new int[] {2, 3, 31, 32}) {
            SharedShelf x = new SharedShelf(n);
            CHECKS.due("how many are UP", x.count(1), x.count(0));
            for (int k = 0; k < x.count(0); k++) {
                CHECKS.due("UP", x.node(k, 0), 1);
                for (int what = 1; what <= 5; what++) {
                    CHECKS.due("node(" + k + ", " + what + ")", x.node(k, what), 0);
                }
            }
            for (int what = 2; what <= 9; what++) {
                CHECKS.due("count(" + what + ")", x.count(what), 0);
            }
        }
    }

    private static void updateAtDown() {
        CHECKS.sentence("2: NONE: the NODE is DOWN");
        SharedShelf x = new SharedShelf(3);
        x.crash(2);
        String before = State.of(x);
        for (int kind = 0; kind <= 3; kind++) {
            CHECKS.due("update of kind " + kind, x.update(2, kind, 1, 1), -1);
        }
        CHECKS.dueSame("nothing changes", State.of(x), before);
        CHECKS.due("at one that is UP", x.update(1, 0, 1, 1), 1);
    }

    private static void updateUnderWay() {
        CHECKS.sentence("2: NONE: the NODE has one under way");
        SharedShelf x = new SharedShelf(3);
        x.update(0, 0, 1, 1);
        x.query(1, 10, 1);
        String before = State.of(x);
        CHECKS.due("behind an UPDATE", x.update(0, 0, 1, 1), -1);
        CHECKS.due("behind a QUERY", x.update(1, 0, 1, 1), -1);
        CHECKS.dueSame("nothing changes", State.of(x), before);
        Steps.throughPhases(x, 0, 4);
        Steps.toTheBrink(x, 0);
        CHECKS.due("one ACK ahead of its end", x.update(0, 0, 1, 1), -1);
        Steps.throughPhase(x, 0);
        CHECKS.due("at its end", x.update(0, 0, 1, 1), 3);
        Steps.throughPhases(x, 1, 3);
        Steps.toTheBrink(x, 1);
        CHECKS.due("one ACK ahead of the QUERY's end", x.update(1, 0, 1, 1), -1);
        Steps.throughPhase(x, 1);
        CHECKS.due("at the QUERY's end", x.update(1, 0, 1, 1), 4);
    }

    private static void updateAtNoNode() {
        CHECKS.sentence("2: IndexOutOfBoundsException: there is no such NODE");
        for (int n : new int[] {3, 31}) {
            SharedShelf x = new SharedShelf(n);
            for (int node : new int[] {-1, n, n + 1, 32, LEAST, MOST}) {
                CHECKS.dueThrow("update at " + node, IndexOutOfBoundsException.class, () -> x.update(node, 0, 1, 1));
            }
            CHECKS.due("at the first", x.update(0, 0, 1, 1), 1);
            CHECKS.due("at the last", x.update(n - 1, 0, 1, 1), 2);
        }
    }

    private static void updateOfNoKind() {
        CHECKS.sentence("2: IllegalArgumentException: kind is not 0 .. 3");
        SharedShelf x = new SharedShelf(4);
        for (int kind : new int[] {-1, 4, 5, 10, 13, 15, 256, LEAST, MOST}) {
            CHECKS.dueThrow("update of kind " + kind, IllegalArgumentException.class, () -> x.update(0, kind, 1, 1));
        }
        for (int kind = 0; kind <= 3; kind++) {
            CHECKS.due("of kind " + kind, x.update(kind, kind, 1, 1), kind + 1);
            CHECKS.due("told", x.told(kind + 1, 1), kind);
        }
    }

    private static void updateOfAnyNumbers() {
        CHECKS.sentence("2: An UPDATE begins at a NODE: its number (whatever a and b are)");
        int[] some = {LEAST, -1, 0, 1, MOST};
        SharedShelf x = new SharedShelf(25);
        for (int k = 0; k < 25; k++) {
            CHECKS.due("update", x.update(k, k % 4, some[k / 5], some[k % 5]), k + 1);
            CHECKS.due("a", x.told(k + 1, 2), some[k / 5]);
            CHECKS.due("b", x.told(k + 1, 3), some[k % 5]);
        }
    }

    private static void queryAtDown() {
        CHECKS.sentence("3: NONE likewise: the NODE is DOWN");
        SharedShelf x = new SharedShelf(3);
        x.crash(0);
        String before = State.of(x);
        for (int kind = 10; kind <= 15; kind++) {
            CHECKS.due("query of kind " + kind, x.query(0, kind, 1), -1);
        }
        CHECKS.dueSame("nothing changes", State.of(x), before);
        CHECKS.due("at one that is UP", x.query(1, 10, 1), 1);
    }

    private static void queryUnderWay() {
        CHECKS.sentence("3: NONE likewise: the NODE has one under way");
        SharedShelf x = new SharedShelf(3);
        x.update(0, 0, 1, 1);
        x.query(1, 10, 1);
        String before = State.of(x);
        CHECKS.due("behind an UPDATE", x.query(0, 10, 1), -1);
        CHECKS.due("behind a QUERY", x.query(1, 10, 1), -1);
        CHECKS.dueSame("nothing changes", State.of(x), before);
        x.crash(2);
        x.crash(1);
        x.calm(2000);
        CHECKS.due("behind one that never ends", x.query(0, 10, 1), -1);
    }

    private static void queryAtNoNode() {
        CHECKS.sentence("3: IndexOutOfBoundsException likewise");
        for (int n : new int[] {3, 31}) {
            SharedShelf x = new SharedShelf(n);
            for (int node : new int[] {-1, n, n + 1, 32, LEAST, MOST}) {
                CHECKS.dueThrow("query at " + node, IndexOutOfBoundsException.class, () -> x.query(node, 10, 1));
            }
            CHECKS.due("at the first", x.query(0, 10, 1), 1);
            CHECKS.due("at the last", x.query(n - 1, 10, 1), 2);
        }
    }

    private static void queryOfNoKind() {
        CHECKS.sentence("3: IllegalArgumentException: kind is not 10 .. 15");
        SharedShelf x = new SharedShelf(6);
        for (int kind : new int[] {-1, 0, 1, 2, 3, 4, 9, 16, 266, LEAST, MOST}) {
            CHECKS.dueThrow("query of kind " + kind, IllegalArgumentException.class, () -> x.query(0, kind, 1));
        }
        for (int kind = 10; kind <= 15; kind++) {
            CHECKS.due("of kind " + kind, x.query(kind - 10, kind, LEAST), kind - 9);
            CHECKS.due("told", x.told(kind - 9, 1), kind);
            CHECKS.due("a", x.told(kind - 9, 2), LEAST);
        }
    }

    private static void whichThrowsFirst() {
        CHECKS.sentence("2, 3: what is wrong throws, also where NONE would be answered");
        SharedShelf x = new SharedShelf(3);
        x.crash(0);
        x.query(1, 10, 0);
        for (int node : new int[] {0, 1}) {
            CHECKS.dueThrow("update of kind 4", IllegalArgumentException.class, () -> x.update(node, 4, 1, 1));
            CHECKS.dueThrow("query of kind 16", IllegalArgumentException.class, () -> x.query(node, 16, 1));
        }
        CHECKS.dueThrow("update, both wrong", IndexOutOfBoundsException.class, () -> x.update(3, -1, 1, 1));
        CHECKS.dueThrow("query, both wrong", IndexOutOfBoundsException.class, () -> x.query(-1, 0, 1));
    }

    private static void deliverFirstAndLast() {
        CHECKS.sentence("4: MESSAGE i (from 0 on) comes: its kind");
        SharedShelf x = new SharedShelf(4);
        x.update(1, 0, 1, 1);
        CHECKS.due("the last", x.deliver(3), 0);
        CHECKS.due("the last is the REPLY of 3", x.message(3, 1), 3);
        CHECKS.due("the first is still to 0", x.message(0, 2), 0);
        CHECKS.due("the first", x.deliver(0), 0);
        CHECKS.due("the first is now to 1", x.message(0, 2), 1);
        CHECKS.due("the last is the REPLY of 0", x.message(3, 1), 0);
        CHECKS.due("one between", x.deliver(2), 1);
        CHECKS.due("ahead of it", x.message(1, 2), 2);
        CHECKS.due("behind it", x.message(2, 1), 0);
        CHECKS.due("on their way", x.count(2), 3);
    }

    private static void deliverNone() {
        CHECKS.sentence("4: IndexOutOfBoundsException: there is none such");
        SharedShelf x = new SharedShelf(3);
        CHECKS.dueThrow("deliver(0) of a new object", IndexOutOfBoundsException.class, () -> x.deliver(0));
        x.query(0, 10, 0);
        for (int i : new int[] {-1, 3, 4, 1999, 2000, LEAST, MOST}) {
            CHECKS.dueThrow("deliver(" + i + ")", IndexOutOfBoundsException.class, () -> x.deliver(i));
        }
        x.calm(2000);
        CHECKS.dueThrow("deliver(0) as all came", IndexOutOfBoundsException.class, () -> x.deliver(0));
        x.query(0, 10, 0);
        x.crash(0);
        x.crash(1);
        x.crash(2);
        x.deliver(2);
        CHECKS.dueThrow("deliver(2) of two", IndexOutOfBoundsException.class, () -> x.deliver(2));
        x.deliver(1);
        x.deliver(0);
        CHECKS.dueThrow("deliver(0) behind the last", IndexOutOfBoundsException.class, () -> x.deliver(0));
    }

    private static void calmTimes() {
        CHECKS.sentence("5: The first MESSAGE comes, n times at most");
        SharedShelf x = new SharedShelf(31);
        for (int k = 0; k < 31; k++) {
            x.update(k, 0, 1, 1);
        }
        String before = State.of(x);
        CHECKS.due("calm(0)", x.calm(0), 0);
        CHECKS.dueSame("calm(0)", State.of(x), before);
        CHECKS.due("calm(1)", x.calm(1), 1);
        CHECKS.due("the first is now", x.message(0, 2), 1);
        CHECKS.due("calm(1999)", x.calm(1999), 1999);
        CHECKS.due("calm(2000)", x.calm(2000), 2000);
        CHECKS.due("came", x.count(4), 4000);
        CHECKS.due("moment", x.count(7), 4031);
    }

    private static void calmAsLongAsThereIsOne() {
        CHECKS.sentence("5: as long as there is one: how often");
        SharedShelf x = new SharedShelf(3);
        CHECKS.due("calm(2000) of none", x.calm(2000), 0);
        for (int more = 0; more <= 1; more++) {
            x.query(0, 10, 0);
            CHECKS.due("calm(" + (24 + more) + ") of 24", x.calm(24 + more), 24);
            CHECKS.due("on their way", x.count(2), 0);
        }
        x.query(0, 10, 0);
        CHECKS.due("calm(23) of 24", x.calm(23), 23);
        CHECKS.due("on their way", x.count(2), 1);
        CHECKS.due("calm(2000)", x.calm(2000), 1);
        CHECKS.due("calm(1)", x.calm(1), 0);
        x.query(1, 10, 0);
        for (int k = 0; k < 3; k++) {
            x.crash(k);
        }
        CHECKS.due("to those that are DOWN", x.calm(2000), 3);
    }

    private static void calmOfWrongNumbers() {
        CHECKS.sentence("5: IllegalArgumentException: n is not 0 .. 2,000");
        SharedShelf x = new SharedShelf(3);
        for (int begun = 0; begun <= 1; begun++) {
            for (int n : new int[] {-1, 2001, -2000, 4000, LEAST, MOST}) {
                CHECKS.dueThrow("calm(" + n + ")", IllegalArgumentException.class, () -> x.calm(n));
            }
            CHECKS.due("came", x.count(4), 0);
            x.query(0, 10, 0);
        }
    }

    private static void crashOnce() {
        CHECKS.sentence("6: A NODE goes DOWN: whether it was UP");
        SharedShelf x = new SharedShelf(3);
        x.update(1, 0, 1, 1);
        CHECKS.due("crash(1)", x.crash(1), true);
        CHECKS.due("moment", x.count(7), 2);
        String before = State.of(x);
        CHECKS.due("crash(1) again", x.crash(1), false);
        CHECKS.dueSame("crash(1) again", State.of(x), before);
        CHECKS.due("those beside it are UP", x.node(0, 0) + x.node(2, 0), 2);
    }

    private static void crashAll() {
        CHECKS.sentence("6: A NODE goes DOWN (the last one that is UP too)");
        for (int n : new int[] {3, 31}) {
            SharedShelf x = new SharedShelf(n);
            x.update(0, 0, 1, 1);
            for (int k = n - 1; k >= 0; k--) {
                CHECKS.due("crash(" + k + ")", x.crash(k), true);
                CHECKS.due("UP", x.count(1), k);
            }
            CHECKS.due("update", x.update(0, 0, 1, 1), -1);
            CHECKS.due("what was on its way comes", x.calm(2000), n);
            CHECKS.due("on their way", x.count(2), 0);
            CHECKS.due("nodes", x.count(0), n);
        }
    }

    private static void crashNoNode() {
        CHECKS.sentence("6: IndexOutOfBoundsException: there is no such NODE");
        for (int n : new int[] {3, 31}) {
            SharedShelf x = new SharedShelf(n);
            for (int node : new int[] {-1, n, n + 1, 32, LEAST, MOST}) {
                CHECKS.dueThrow("crash(" + node + ")", IndexOutOfBoundsException.class, () -> x.crash(node) ? 1 : 0);
            }
            CHECKS.due("UP", x.count(1), n);
            CHECKS.due("the last", x.crash(n - 1), true);
        }
    }
}
