/** Promises 7 (told), 9 (view) and what "Terms" says of collects, moves and BORROWED VIEWS. */
public final class SnapshotTest {
    private static final Checks CHECKS = new Checks();

    public static void main(String[] args) {
        alike();
        borrowedByQuery();
        borrowedByUpdate();
        theLeastLends();
        movesOfDifferentNodes();
        twoUpdatesAreOneMove();
        movesAreForgotten();
        theFirstCollectShowsNoMove();
        whatWasSeenIsStored();
        writerGoesDown();
        noSuchOperation();
        CHECKS.end();
    }

    private static void dueView(SharedShelf x, int operation, int... numbers) {
        for (int k = 0; k < numbers.length; k++) {
            CHECKS.due("view(" + operation + ", " + k + ")", x.view(operation, k), numbers[k]);
        }
    }

    private static void dueTold(SharedShelf x, int operation, int what, int want) {
        CHECKS.due("told(" + operation + ", " + what + ")", x.told(operation, what), want);
    }

    private static void write(SharedShelf x, int node, int a) {
        x.update(node, 0, a, 0);
        Steps.throughOperation(x, node);
    }

    private static void alike() {
        SharedShelf x = new SharedShelf(3);
        x.crash(2);
        x.update(1, 2, 44, 55);
        int[] all = {1, 2, 44, 55, 0, 2, -1, 0, -1, 0};
        for (int what = 0; what < all.length; what++) {
            dueTold(x, 1, what, all[what]);
        }
        Steps.throughPhase(x, 1);
        dueTold(x, 1, 7, 0);
        Steps.throughPhase(x, 1);
        dueTold(x, 1, 7, 1);
        CHECKS.due("most collects", x.count(9), 1);
        dueView(x, 1, -1, -1, -1);
        Steps.throughPhase(x, 1);
        dueView(x, 1, -1, -1, -1);
        CHECKS.due("log ahead of it", x.node(1, 5), 0);
        Steps.throughPhase(x, 1);
        CHECKS.due("WRITING", x.node(1, 1), 3);
        dueTold(x, 1, 7, 2);
        dueTold(x, 1, 9, 1);
        dueTold(x, 1, 4, 0);
        dueTold(x, 1, 6, -1);
        dueView(x, 1, 0, 0, 0);
        CHECKS.due("log", x.node(1, 5), 1);
        CHECKS.due("what it keeps, as no STORE came", x.kept(1, 1), 0);
        x.calm(2000);
        dueTold(x, 1, 4, 1);
        dueTold(x, 1, 8, -1);
        x.query(0, 10, 0);
        x.calm(2000);
        dueView(x, 2, 0, 1, 0);
        dueTold(x, 2, 9, 0);
        // With NODE 2 down, the ACK that makes more than half is the last of its 20 MESSAGES.
        dueTold(x, 2, 5, 28);
        dueTold(x, 2, 6, 48);
        CHECKS.due("moment", x.count(7), 48);
    }

    private static void borrowedByQuery() {
        SharedShelf x = new SharedShelf(3);
        x.query(0, 10, 0);
        Steps.throughCollect(x, 0);
        write(x, 1, 5);
        Steps.throughCollect(x, 0);
        dueTold(x, 1, 7, 2);
        dueTold(x, 1, 4, 0);
        write(x, 1, 7);
        CHECKS.due("borrowed ahead of it", x.count(8), 0);
        Steps.throughCollect(x, 0);
        dueTold(x, 1, 7, 3);
        dueTold(x, 1, 4, 1);
        dueTold(x, 1, 6, x.count(7));
        dueTold(x, 1, 8, 1);
        dueView(x, 1, 0, 1, 0);
        dueView(x, 3, 0, 1, 0);
        CHECKS.due("answer", x.answer(1), 5);
        CHECKS.due("borrowed", x.count(8), 1);
        CHECKS.due("most collects", x.count(9), 3);
        CHECKS.due("IDLE", x.node(0, 1), 0);
        CHECKS.due("round", x.node(0, 2), 6);
        CHECKS.due("astray()", x.astray(), 0);
    }

    private static void borrowedByUpdate() {
        SharedShelf x = new SharedShelf(5);
        write(x, 4, 1);
        x.update(2, 0, 9, 0);
        Steps.throughCollect(x, 2);
        write(x, 3, 5);
        Steps.throughCollect(x, 2);
        write(x, 3, 7);
        Steps.throughCollect(x, 2);
        CHECKS.due("WRITING", x.node(2, 1), 3);
        dueTold(x, 2, 8, 3);
        dueTold(x, 2, 9, 1);
        dueTold(x, 2, 4, 0);
        dueView(x, 2, 0, 0, 0, 1, 1);
        Steps.throughOperation(x, 2);
        dueTold(x, 2, 4, 1);
        dueTold(x, 2, 7, 3);
        x.query(0, 10, 0);
        Steps.throughOperation(x, 0);
        dueView(x, 5, 0, 0, 1, 2, 1);
        CHECKS.due("answer", x.answer(5), 22);
        CHECKS.due("borrowed", x.count(8), 1);
        CHECKS.due("astray()", x.astray(), 0);
    }

    private static void theLeastLends() {
        SharedShelf x = new SharedShelf(4);
        x.query(0, 10, 0);
        Steps.throughCollect(x, 0);
        for (int times = 0; times < 2; times++) {
            write(x, 3, 1);
            write(x, 2, 10);
            Steps.throughCollect(x, 0);
        }
        dueTold(x, 1, 8, 2);
        // Operations 2 to 5: at 3, at 2, at 3, at 2; the last one's VIEW has two of 3, one of 2.
        dueView(x, 1, 0, 0, 1, 2);
        CHECKS.due("answer", x.answer(1), 12);
    }

    private static void movesOfDifferentNodes() {
        SharedShelf x = new SharedShelf(3);
        x.query(0, 10, 0);
        Steps.throughCollect(x, 0);
        write(x, 1, 5);
        Steps.throughCollect(x, 0);
        write(x, 2, 7);
        Steps.throughCollect(x, 0);
        dueTold(x, 1, 4, 0);
        Steps.throughCollect(x, 0);
        dueTold(x, 1, 4, 1);
        dueTold(x, 1, 7, 4);
        dueTold(x, 1, 8, -1);
        dueView(x, 1, 0, 1, 1);
        CHECKS.due("answer", x.answer(1), 12);
        CHECKS.due("most collects", x.count(9), 4);
        x.query(0, 10, 0);
        Steps.throughOperation(x, 0);
        dueTold(x, 4, 7, 2);
        CHECKS.due("most collects, behind one of fewer", x.count(9), 4);
    }

    private static void twoUpdatesAreOneMove() {
        SharedShelf x = new SharedShelf(3);
        x.query(0, 10, 0);
        Steps.throughCollect(x, 0);
        write(x, 1, 5);
        write(x, 1, 6);
        Steps.throughCollect(x, 0);
        dueTold(x, 1, 4, 0);
        Steps.throughCollect(x, 0);
        dueTold(x, 1, 4, 1);
        dueTold(x, 1, 7, 3);
        dueTold(x, 1, 8, -1);
        dueView(x, 1, 0, 2, 0);
    }

    private static void movesAreForgotten() {
        SharedShelf x = new SharedShelf(3);
        for (int operation = 1; operation <= 3; operation += 2) {
            x.query(0, 10, 0);
            Steps.throughCollect(x, 0);
            write(x, 1, 5);
            Steps.throughOperation(x, 0);
            dueTold(x, operation, 7, 3);
            dueTold(x, operation, 8, -1);
        }
        CHECKS.due("borrowed", x.count(8), 0);
    }

    private static void theFirstCollectShowsNoMove() {
        SharedShelf x = new SharedShelf(3);
        write(x, 1, 5);
        x.query(0, 10, 0);
        Steps.throughCollect(x, 0);
        write(x, 1, 5);
        Steps.throughOperation(x, 0);
        dueTold(x, 2, 7, 3);
        dueTold(x, 2, 8, -1);
        dueView(x, 2, 0, 2, 0);
    }

    private static void whatWasSeenIsStored() {
        SharedShelf x = new SharedShelf(3);
        x.update(1, 0, 5, 0);
        for (int phase = 0; phase < 4; phase++) {
            Steps.throughPhase(x, 1);
        }
        int own = -1;
        for (int i = 0; i < x.count(2); i++) {
            own = x.message(i, 0) == 2 && x.message(i, 2) == 1 && x.message(i, 3) == 5 ? i : own;
        }
        x.deliver(own);
        CHECKS.due("the writer alone keeps it", x.kept(1, 1) - x.kept(0, 1) - x.kept(2, 1), 1);
        x.query(0, 10, 0);
        Steps.throughOperation(x, 0);
        dueView(x, 2, 0, 1, 0);
        CHECKS.due("the answer has what is not DONE", x.answer(2), 5);
        CHECKS.due("0 keeps it now", x.kept(0, 1), 1);
        CHECKS.due("2 keeps it now", x.kept(2, 1), 1);
        dueTold(x, 1, 4, 0);
        CHECKS.due("astray()", x.astray(), 0);
    }

    private static void writerGoesDown() {
        SharedShelf x = new SharedShelf(3);
        x.update(1, 0, 5, 0);
        for (int phase = 0; phase < 4; phase++) {
            Steps.throughPhase(x, 1);
        }
        x.crash(1);
        CHECKS.due("its phase stays", x.node(1, 1), 3);
        CHECKS.due("its log stays", x.node(1, 5), 1);
        x.calm(2000);
        dueTold(x, 1, 4, 0);
        dueTold(x, 1, 9, 1);
        dueView(x, 1, 0, 0, 0);
        CHECKS.due("answer of what is not DONE", x.answer(1), 0);
        x.query(2, 10, 0);
        x.calm(2000);
        CHECKS.due("its STORES came", x.answer(2), 5);
    }

    private static void noSuchOperation() {
        SharedShelf x = new SharedShelf(3);
        x.query(0, 10, 0);
        x.calm(2000);
        for (int operation : new int[] {-1, 0, 2, 511, 512, Integer.MIN_VALUE, Integer.MAX_VALUE}) {
            for (int what = 0; what <= 9; what++) {
                dueTold(x, operation, what, -1);
            }
            CHECKS.due("view(" + operation + ", 0)", x.view(operation, 0), -1);
            CHECKS.due("answer(" + operation + ")", x.answer(operation), 0);
        }
        for (int what : new int[] {-1, 10, 11, Integer.MIN_VALUE, Integer.MAX_VALUE}) {
            dueTold(x, 1, what, -1);
        }
        for (int node : new int[] {-1, 3, 31, Integer.MIN_VALUE, Integer.MAX_VALUE}) {
            CHECKS.due("view(1, " + node + ")", x.view(1, node), -1);
        }
    }
}
