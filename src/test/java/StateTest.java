/** Promises 10 (node), 11 (kept) and 14 (count), step by step through one UPDATE. */
public final class StateTest {
    private static final Checks CHECKS = new Checks();

    public static void main(String[] args) {
        throughAnUpdate();
        wrongInputs();
        counts();
        CHECKS.end();
    }

    private static void dueNode(SharedShelf x, String when, int... numbers) {
        for (int what = 0; what < numbers.length; what++) {
            CHECKS.due(when + ": node(1, " + what + ")", x.node(1, what), numbers[what]);
        }
    }

    private static void throughAnUpdate() {
        SharedShelf x = new SharedShelf(3);
        dueNode(x, "at first", 1, 0, 0, 0, 0, 0);
        x.update(1, 0, 5, 0);
        dueNode(x, "begun", 1, 1, 1, 1, 0, 0);
        x.calm(3);
        dueNode(x, "COLLECTS came", 1, 1, 1, 1, 0, 0);
        x.calm(1);
        dueNode(x, "a REPLY came", 1, 1, 1, 1, 1, 0);
        x.calm(1);
        dueNode(x, "two REPLIES came", 1, 2, 2, 1, 0, 0);
        x.calm(5);
        dueNode(x, "an ACK came", 1, 2, 2, 1, 1, 0);
        x.calm(1);
        dueNode(x, "two ACKS came", 1, 1, 3, 1, 0, 0);
        x.calm(6);
        dueNode(x, "two REPLIES came again", 1, 2, 4, 1, 0, 0);
        x.calm(6);
        dueNode(x, "two ACKS came again", 1, 3, 5, 1, 0, 1);
        CHECKS.due("no STORE of it came", x.kept(1, 1), 0);
        x.calm(2);
        CHECKS.due("kept by 0, which got it", x.kept(0, 1), 1);
        CHECKS.due("not kept by 2", x.kept(2, 1), 0);
        x.calm(3);
        dueNode(x, "the first ACK of WRITING came", 1, 3, 5, 1, 1, 1);
        CHECKS.due("not DONE", x.told(1, 4), 0);
        x.calm(1);
        dueNode(x, "DONE", 1, 0, 5, 0, 0, 1);
        CHECKS.due("DONE", x.told(1, 6), x.count(7));
        x.calm(2000);
        dueNode(x, "all came", 1, 0, 5, 0, 0, 1);
        for (int k = 0; k < 3; k++) {
            CHECKS.due("kept(" + k + ", 0)", x.kept(k, 0), 0);
            CHECKS.due("kept(" + k + ", 1)", x.kept(k, 1), 1);
            CHECKS.due("kept(" + k + ", 2)", x.kept(k, 2), 0);
        }
        x.crash(1);
        dueNode(x, "DOWN", 0, 0, 5, 0, 0, 1);
        CHECKS.due("what it kept stays", x.kept(1, 1), 1);
    }

    private static void wrongInputs() {
        SharedShelf x = new SharedShelf(5);
        for (int wrong : new int[] {-1, 5, 31, Integer.MIN_VALUE, Integer.MAX_VALUE}) {
            for (int what = 0; what <= 5; what++) {
                CHECKS.due("node(" + wrong + ", " + what + ")", x.node(wrong, what), -1);
            }
            CHECKS.due("kept(" + wrong + ", 0)", x.kept(wrong, 0), -1);
            CHECKS.due("kept(0, " + wrong + ")", x.kept(0, wrong), -1);
            CHECKS.due("kept(" + wrong + ", " + wrong + ")", x.kept(wrong, wrong), -1);
        }
        for (int what : new int[] {-1, 6, Integer.MIN_VALUE, Integer.MAX_VALUE}) {
            CHECKS.due("node(4, " + what + ")", x.node(4, what), -1);
        }
        for (int what : new int[] {-1, 10, 11, Integer.MIN_VALUE, Integer.MAX_VALUE}) {
            CHECKS.due("count(" + what + ")", x.count(what), -1);
        }
    }

    private static void counts() {
        SharedShelf x = new SharedShelf(5);
        x.crash(4);
        x.update(0, 0, 1, 1);
        x.query(1, 10, 0);
        x.update(4, 0, 1, 1);
        x.calm(7);
        // Of 10 COLLECTS 7 came, one to NODE 4: 6 REPLIES.
        int[] due = {5, 4, 9, 16, 7, 2, 0, 10, 0, 0};
        for (int what = 0; what < due.length; what++) {
            CHECKS.due("count(" + what + ")", x.count(what), due[what]);
        }
        x.calm(2000);
        CHECKS.due("done", x.count(6), 2);
        CHECKS.due("came all", x.count(4), x.count(3));
        CHECKS.due("on their way", x.count(2), 0);
        CHECKS.due("moment", x.count(7), 3 + x.count(4));
    }
}
