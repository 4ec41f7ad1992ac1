/** Promise 8 (answer): what is folded from a VIEW. */
public final class AnswerTest {
    private static final Checks CHECKS = new Checks();
    private static final int LEAST = Integer.MIN_VALUE;
    private static final int MOST = Integer.MAX_VALUE;

    public static void main(String[] args) {
        ofNone();
        counter();
        greatest();
        set();
        map();
        kindsDoNotMix();
        answersStay();
        usageOfReadme();
        CHECKS.end();
    }

    private static int node;

    private static void write(SharedShelf x, int kind, int a, int b) {
        node = (node + 1) % 3;
        x.update(node, kind, a, b);
        x.calm(2000);
        CHECKS.due("an UPDATE answers", x.answer(x.count(5)), 0);
    }

    private static void due(SharedShelf x, int kind, int a, long want) {
        node = (node + 2) % 3;
        int operation = x.query(node, kind, a);
        CHECKS.due("answer of what is not DONE", x.answer(operation), 0);
        x.calm(2000);
        CHECKS.due("query(" + node + ", " + kind + ", " + a + ")", x.answer(operation), want);
    }

    private static void ofNone() {
        SharedShelf x = new SharedShelf(3);
        due(x, 10, 0, 0);
        due(x, 11, 0, Long.MIN_VALUE);
        due(x, 12, 0, 0);
        due(x, 13, 0, 0);
        due(x, 14, 0, Long.MIN_VALUE);
        due(x, 15, 0, 0);
    }

    private static void counter() {
        SharedShelf x = new SharedShelf(3);
        write(x, 0, MOST, 1);
        write(x, 0, MOST, 2);
        due(x, 10, 0, 4294967294L);
        write(x, 0, 3, 3);
        write(x, 0, -1, 3);
        due(x, 10, 77, 4294967296L);
        for (int k = 0; k < 5; k++) {
            write(x, 0, LEAST, 0);
        }
        due(x, 10, 0, 4294967296L - 5 * 2147483648L);
    }

    private static void greatest() {
        SharedShelf x = new SharedShelf(3);
        write(x, 1, LEAST, MOST);
        due(x, 11, 0, LEAST);
        write(x, 1, -4, 0);
        write(x, 1, -9, 0);
        due(x, 11, 5, -4);
        write(x, 1, MOST, 0);
        write(x, 1, 0, 0);
        due(x, 11, 0, MOST);
    }

    private static void set() {
        SharedShelf x = new SharedShelf(3);
        write(x, 2, 7, 1);
        write(x, 2, -7, 2);
        write(x, 2, 7, 3);
        write(x, 2, 7, 3);
        write(x, 2, 0, 3);
        due(x, 12, 7, 1);
        due(x, 12, -7, 1);
        due(x, 12, 0, 1);
        due(x, 12, 3, 0);
        due(x, 12, MOST, 0);
        due(x, 13, 7, 3);
        write(x, 2, LEAST, 0);
        due(x, 13, 0, 4);
        due(x, 12, LEAST, 1);
    }

    private static void map() {
        SharedShelf x = new SharedShelf(3);
        write(x, 3, 7, -5);
        due(x, 14, 7, -5);
        write(x, 3, 7, -9);
        due(x, 14, 7, -5);
        write(x, 3, 7, 2);
        write(x, 3, -7, LEAST);
        due(x, 14, 7, 2);
        due(x, 14, -7, LEAST);
        due(x, 14, 2, Long.MIN_VALUE);
        due(x, 15, 7, 2);
        write(x, 3, LEAST, MOST);
        due(x, 14, LEAST, MOST);
        due(x, 15, 0, 3);
    }

    private static void kindsDoNotMix() {
        SharedShelf x = new SharedShelf(3);
        write(x, 0, 100, 1000);
        write(x, 1, 20, 2000);
        write(x, 2, 3, 3000);
        write(x, 3, 4, 5);
        due(x, 10, 0, 100);
        due(x, 11, 0, 20);
        due(x, 12, 3, 1);
        due(x, 12, 4, 0);
        due(x, 13, 0, 1);
        due(x, 14, 4, 5);
        due(x, 14, 3, Long.MIN_VALUE);
        due(x, 15, 0, 1);
    }

    private static void answersStay() {
        SharedShelf x = new SharedShelf(3);
        write(x, 0, 5, 0);
        x.query(0, 10, 0);
        x.calm(2000);
        write(x, 0, 6, 0);
        write(x, 0, 7, 0);
        CHECKS.due("behind later UPDATES", x.answer(2), 5);
        x.crash(0);
        x.crash(1);
        CHECKS.due("behind crashes", x.answer(2), 5);
    }

    private static void usageOfReadme() {
        SharedShelf shelf = new SharedShelf(3);
        shelf.update(0, 0, 5, 0);
        shelf.calm(2000);
        int sum = shelf.query(1, 10, 0);
        for (int k = 0; k < 100 && shelf.told(sum, 4) == 0; k++) {
            shelf.deliver(shelf.count(2) - 1);
        }
        CHECKS.due("answer as README.md has it", shelf.answer(sum), 5);
    }
}
