/** Promises 1 (a new object), 2 (update) and 3 (query). */
public final class BeginTest {
    private static final Checks CHECKS = new Checks();
    private static final int[] NO_NODES = {-1, 3, 31, Integer.MIN_VALUE, Integer.MAX_VALUE};

    public static void main(String[] args) {
        newObject();
        updateBegins();
        queryBegins();
        noneIsAnswered();
        updateThrows();
        queryThrows();
        CHECKS.end();
    }

    private static void newObject() {
        int[] told = {3, 4, 17, 30, 31, 2, 1, 0, -1, 32, 2000, Integer.MIN_VALUE, Integer.MAX_VALUE};
        int[] due = {3, 4, 17, 30, 31, 3, 3, 3, 3, 3, 3, 3, 3};
        for (int t = 0; t < told.length; t++) {
            SharedShelf x = new SharedShelf(told[t]);
            String made = "new SharedShelf(" + told[t] + "): ";
            CHECKS.due(made + "count(0)", x.count(0), due[t]);
            CHECKS.due(made + "count(1)", x.count(1), due[t]);
            for (int what = 2; what <= 9; what++) {
                CHECKS.due(made + "count(" + what + ")", x.count(what), 0);
            }
            for (int k = 0; k < due[t]; k++) {
                CHECKS.due(made + "node " + k + " is up", x.node(k, 0), 1);
                for (int what = 1; what <= 5; what++) {
                    CHECKS.due(made + "node(" + k + ", " + what + ")", x.node(k, what), 0);
                }
                for (int s = 0; s < due[t]; s++) {
                    CHECKS.due(made + "kept(" + k + ", " + s + ")", x.kept(k, s), 0);
                }
            }
            CHECKS.due(made + "node behind the last", x.node(due[t], 0), -1);
            CHECKS.due(made + "astray()", x.astray(), 0);
        }
    }

    private static void updateBegins() {
        SharedShelf x = new SharedShelf(4);
        CHECKS.due("update at 2", x.update(2, 3, -7, 8), 1);
        CHECKS.due("update at 0", x.update(0, 0, Integer.MIN_VALUE, Integer.MAX_VALUE), 2);
        CHECKS.due("update at 3", x.update(3, 1, 1, 1), 3);
        CHECKS.due("update at 1", x.update(1, 2, 1, 1), 4);
        CHECKS.due("began", x.count(5), 4);
        CHECKS.due("moment", x.count(7), 4);
        CHECKS.due("sent", x.count(3), 16);
        int[] askers = {2, 0, 3, 1};
        for (int i = 0; i < 16; i++) {
            CHECKS.due("kind of " + i, x.message(i, 0), 0);
            CHECKS.due("sender of " + i, x.message(i, 1), askers[i / 4]);
            CHECKS.due("receiver of " + i, x.message(i, 2), i % 4);
            CHECKS.due("round of " + i, x.message(i, 3), 1);
        }
        CHECKS.due("node of 1", x.told(1, 0), 2);
        CHECKS.due("kind of 1", x.told(1, 1), 3);
        CHECKS.due("a of 1", x.told(1, 2), -7);
        CHECKS.due("b of 1", x.told(1, 3), 8);
        CHECKS.due("a of 2", x.told(2, 2), Integer.MIN_VALUE);
        CHECKS.due("b of 2, where it does not matter", x.told(2, 3), Integer.MAX_VALUE);
        CHECKS.due("2 began", x.told(2, 5), 2);
        CHECKS.due("phase", x.node(1, 1), 1);
        CHECKS.due("under way", x.node(1, 3), 4);
    }

    private static void queryBegins() {
        SharedShelf x = new SharedShelf(8);
        for (int kind = 10; kind <= 15; kind++) {
            CHECKS.due("query of kind " + kind, x.query(kind - 10, kind, 50 - kind), kind - 9);
            CHECKS.due("kind", x.told(kind - 9, 1), kind);
            CHECKS.due("a, also where it does not matter", x.told(kind - 9, 2), 50 - kind);
            CHECKS.due("b", x.told(kind - 9, 3), 0);
            CHECKS.due("place", x.told(kind - 9, 9), 0);
            CHECKS.due("began", x.told(kind - 9, 5), kind - 9);
        }
        CHECKS.due("an update is numbered with them", x.update(6, 0, 0, 0), 7);
    }

    private static void noneIsAnswered() {
        SharedShelf x = new SharedShelf(3);
        x.update(0, 0, 1, 0);
        x.crash(1);
        int moment = x.count(7);
        CHECKS.due("update where one is under way", x.update(0, 0, 1, 0), -1);
        CHECKS.due("query where one is under way", x.query(0, 10, 1), -1);
        CHECKS.due("update at one that is down", x.update(1, 0, 1, 0), -1);
        CHECKS.due("query at one that is down", x.query(1, 10, 1), -1);
        CHECKS.due("moment", x.count(7), moment);
        CHECKS.due("began", x.count(5), 1);
        CHECKS.due("messages", x.count(2), 3);
        CHECKS.due("round", x.node(0, 2), 1);
        x.calm(2000);
        CHECKS.due("done", x.told(1, 4), 1);
        CHECKS.due("the next one at the node", x.query(0, 10, 1), 2);
        CHECKS.due("its first round", x.message(0, 3), 6);
    }

    private static void updateThrows() {
        SharedShelf x = new SharedShelf(3);
        for (int node : NO_NODES) {
            CHECKS.dueThrow("update at " + node, IndexOutOfBoundsException.class, () -> x.update(node, 0, 1, 1));
            CHECKS.dueThrow("both wrong", IndexOutOfBoundsException.class, () -> x.update(node, 4, 1, 1));
        }
        for (int kind : new int[] {-1, 4, 9, 10, 15, Integer.MIN_VALUE, Integer.MAX_VALUE}) {
            CHECKS.dueThrow("update of kind " + kind, IllegalArgumentException.class, () -> x.update(0, kind, 1, 1));
        }
        unchanged(x);
        x.crash(0);
        CHECKS.dueThrow("wrong kind at one that is down", IllegalArgumentException.class, () -> x.update(0, 4, 1, 1));
    }

    private static void queryThrows() {
        SharedShelf x = new SharedShelf(3);
        for (int node : NO_NODES) {
            CHECKS.dueThrow("query at " + node, IndexOutOfBoundsException.class, () -> x.query(node, 10, 1));
            CHECKS.dueThrow("both wrong", IndexOutOfBoundsException.class, () -> x.query(node, 9, 1));
        }
        for (int kind : new int[] {-1, 0, 3, 9, 16, Integer.MIN_VALUE, Integer.MAX_VALUE}) {
            CHECKS.dueThrow("query of kind " + kind, IllegalArgumentException.class, () -> x.query(0, kind, 1));
        }
        unchanged(x);
        x.query(0, 10, 0);
        CHECKS.dueThrow("wrong kind where one is under way", IllegalArgumentException.class, () -> x.query(0, 3, 1));
    }

    private static void unchanged(SharedShelf x) {
        for (int what = 2; what <= 9; what++) {
            CHECKS.due("count(" + what + ") behind what throws", x.count(what), 0);
        }
        CHECKS.due("node 0 behind what throws", x.node(0, 1), 0);
    }
}
