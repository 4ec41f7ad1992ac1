/** Promises 4 (deliver), 5 (calm), 6 (crash), 12 (message) and 13 (vector). */
public final class MessagesTest {
    private static final Checks CHECKS = new Checks();

    public static void main(String[] args) {
        deliverTakesOneOut();
        deliverThrows();
        kindsAreAnswered();
        lateAnswersDoNothing();
        majorityOfEvenNumber();
        calmTakesTheFirst();
        calmThrows();
        crashIsForGood();
        messagesToDownNodesAreGone();
        answersOfDownNodesCount();
        noSuchMessage();
        vectors();
        CHECKS.end();
    }

    private static void dueMessage(SharedShelf x, int i, int kind, int sender, int receiver, int round) {
        CHECKS.due("kind of message " + i, x.message(i, 0), kind);
        CHECKS.due("sender of message " + i, x.message(i, 1), sender);
        CHECKS.due("receiver of message " + i, x.message(i, 2), receiver);
        CHECKS.due("round of message " + i, x.message(i, 3), round);
    }

    private static void deliverTakesOneOut() {
        SharedShelf x = new SharedShelf(5);
        x.query(3, 10, 0);
        CHECKS.due("deliver(2)", x.deliver(2), 0);
        CHECKS.due("messages", x.count(2), 5);
        dueMessage(x, 0, 0, 3, 0, 1);
        dueMessage(x, 1, 0, 3, 1, 1);
        dueMessage(x, 2, 0, 3, 3, 1);
        dueMessage(x, 3, 0, 3, 4, 1);
        dueMessage(x, 4, 1, 2, 3, 1);
        CHECKS.due("deliver(4)", x.deliver(4), 1);
        CHECKS.due("messages", x.count(2), 4);
        CHECKS.due("replied", x.node(3, 4), 1);
        CHECKS.due("deliver(0)", x.deliver(0), 0);
        dueMessage(x, 0, 0, 3, 1, 1);
        dueMessage(x, 3, 1, 0, 3, 1);
        CHECKS.due("came", x.count(4), 3);
        CHECKS.due("sent", x.count(3), 7);
        CHECKS.due("moment", x.count(7), 4);
    }

    private static void deliverThrows() {
        SharedShelf x = new SharedShelf(3);
        CHECKS.dueThrow("deliver(0) of none", IndexOutOfBoundsException.class, () -> x.deliver(0));
        x.update(1, 0, 1, 1);
        for (int i : new int[] {-1, 3, 2000, Integer.MIN_VALUE, Integer.MAX_VALUE}) {
            CHECKS.dueThrow("deliver(" + i + ")", IndexOutOfBoundsException.class, () -> x.deliver(i));
        }
        CHECKS.due("came", x.count(4), 0);
        CHECKS.due("moment", x.count(7), 1);
        CHECKS.due("messages", x.count(2), 3);
        CHECKS.due("the last one", x.deliver(2), 0);
    }

    private static void kindsAreAnswered() {
        SharedShelf x = new SharedShelf(3);
        x.update(1, 0, 1, 1);
        CHECKS.due("COLLECT to 0", x.deliver(0), 0);
        dueMessage(x, 2, 1, 0, 1, 1);
        CHECKS.due("COLLECT to 1", x.deliver(0), 0);
        CHECKS.due("REPLY of 0", x.deliver(1), 1);
        CHECKS.due("still COLLECTING", x.node(1, 1), 1);
        CHECKS.due("REPLY of 1", x.deliver(1), 1);
        CHECKS.due("STORING", x.node(1, 1), 2);
        CHECKS.due("messages", x.count(2), 4);
        dueMessage(x, 0, 0, 1, 2, 1);
        dueMessage(x, 1, 2, 1, 0, 2);
        dueMessage(x, 2, 2, 1, 1, 2);
        dueMessage(x, 3, 2, 1, 2, 2);
        CHECKS.due("STORE to 2", x.deliver(3), 2);
        dueMessage(x, 3, 3, 2, 1, 2);
        CHECKS.due("ACK of 2", x.deliver(3), 3);
        CHECKS.due("sent ACK", x.node(1, 4), 1);
        CHECKS.due("STORE to 1", x.deliver(2), 2);
        CHECKS.due("ACK of 1", x.deliver(2), 3);
        CHECKS.due("COLLECTING again", x.node(1, 1), 1);
        CHECKS.due("round", x.node(1, 2), 3);
        dueMessage(x, 2, 0, 1, 0, 3);
    }

    private static void lateAnswersDoNothing() {
        SharedShelf x = new SharedShelf(3);
        x.query(0, 10, 0);
        x.calm(3);
        x.calm(2);
        CHECKS.due("STORING", x.node(0, 1), 2);
        dueMessage(x, 0, 1, 2, 0, 1);
        CHECKS.due("a REPLY of an earlier round comes", x.deliver(0), 1);
        CHECKS.due("and is not counted", x.node(0, 4), 0);
        CHECKS.due("nor answered", x.count(2), 3);
        x.calm(5);
        dueMessage(x, 0, 3, 2, 0, 2);
        CHECKS.due("COLLECTING", x.node(0, 1), 1);
        CHECKS.due("an ACK of an earlier round comes", x.deliver(0), 3);
        CHECKS.due("and is not counted", x.node(0, 4), 0);
        Steps.throughOperation(x, 0);
        CHECKS.due("IDLE", x.node(0, 1), 0);
        int late = Steps.find(x, 3, 2, 0);
        CHECKS.due("its round is the node's", x.message(late, 3), x.node(0, 2));
        CHECKS.due("an ACK comes to one that is IDLE", x.deliver(late), 3);
        CHECKS.due("and is not counted", x.node(0, 4), 0);
        CHECKS.due("done once", x.count(6), 1);
    }

    private static void majorityOfEvenNumber() {
        SharedShelf x = new SharedShelf(4);
        x.query(0, 10, 0);
        x.calm(4);
        x.calm(2);
        CHECKS.due("half is not enough", x.node(0, 1), 1);
        CHECKS.due("replied", x.node(0, 4), 2);
        x.calm(1);
        CHECKS.due("more than half is", x.node(0, 1), 2);
    }

    private static void calmTakesTheFirst() {
        SharedShelf x = new SharedShelf(3);
        CHECKS.due("calm(2000) of none", x.calm(2000), 0);
        x.query(0, 10, 0);
        x.query(1, 10, 0);
        CHECKS.due("calm(0)", x.calm(0), 0);
        CHECKS.due("moment", x.count(7), 2);
        CHECKS.due("calm(4)", x.calm(4), 4);
        dueMessage(x, 0, 0, 1, 1, 1);
        dueMessage(x, 2, 1, 0, 0, 1);
        dueMessage(x, 5, 1, 0, 1, 1);
        CHECKS.due("moment", x.count(7), 6);
        CHECKS.due("calm(2000)", x.calm(2000), 44);
        CHECKS.due("came", x.count(4), 48);
        CHECKS.due("done", x.count(6), 2);
        CHECKS.due("calm(1) of none", x.calm(1), 0);
    }

    private static void calmThrows() {
        SharedShelf x = new SharedShelf(3);
        x.update(0, 0, 0, 0);
        for (int n : new int[] {-1, 2001, Integer.MIN_VALUE, Integer.MAX_VALUE}) {
            CHECKS.dueThrow("calm(" + n + ")", IllegalArgumentException.class, () -> x.calm(n));
        }
        CHECKS.due("came", x.count(4), 0);
        CHECKS.due("messages", x.count(2), 3);
        CHECKS.due("calm(2000)", x.calm(2000), 30);
    }

    private static void crashIsForGood() {
        SharedShelf x = new SharedShelf(4);
        x.update(2, 0, 1, 0);
        x.calm(5);
        CHECKS.due("crash(2)", x.crash(2), true);
        CHECKS.due("moment", x.count(7), 7);
        CHECKS.due("crash(2) again", x.crash(2), false);
        CHECKS.due("moment, as nothing was done", x.count(7), 7);
        CHECKS.due("up", x.count(1), 3);
        CHECKS.due("node 2 is down", x.node(2, 0), 0);
        CHECKS.due("its phase stays", x.node(2, 1), 1);
        CHECKS.due("its operation stays", x.node(2, 3), 1);
        CHECKS.due("who replied stays", x.node(2, 4), 1);
        for (int node : new int[] {-1, 4, 31, Integer.MIN_VALUE, Integer.MAX_VALUE}) {
            CHECKS.dueThrow("crash(" + node + ")", IndexOutOfBoundsException.class, () -> x.crash(node) ? 1 : 0);
        }
        CHECKS.due("moment, behind what throws", x.count(7), 7);
        x.crash(0);
        x.crash(1);
        CHECKS.due("crash(3), the last one", x.crash(3), true);
        CHECKS.due("up", x.count(1), 0);
        CHECKS.due("what is on its way still comes", x.calm(2000), 3);
        CHECKS.due("not done", x.told(1, 4), 0);
    }

    private static void messagesToDownNodesAreGone() {
        SharedShelf x = new SharedShelf(3);
        x.update(0, 0, 1, 0);
        x.crash(0);
        x.crash(1);
        CHECKS.due("COLLECT to 1", x.deliver(1), 0);
        CHECKS.due("no answer", x.count(2), 2);
        CHECKS.due("it came", x.count(4), 1);
        CHECKS.due("moment", x.count(7), 4);
        CHECKS.due("COLLECT to 2", x.deliver(1), 0);
        dueMessage(x, 1, 1, 2, 0, 1);
        CHECKS.due("REPLY to 0", x.deliver(1), 1);
        CHECKS.due("is not counted", x.node(0, 4), 0);
        SharedShelf y = new SharedShelf(3);
        y.update(0, 0, 1, 0);
        y.crash(2);
        y.calm(2000);
        CHECKS.due("a STORE to 2 does nothing", y.kept(2, 0), 0);
        CHECKS.due("the others keep it", y.kept(1, 0), 1);
    }

    private static void answersOfDownNodesCount() {
        SharedShelf x = new SharedShelf(3);
        x.query(0, 10, 0);
        x.calm(3);
        x.crash(1);
        x.crash(2);
        x.deliver(2);
        x.deliver(1);
        CHECKS.due("REPLIES that were sent ahead of a crash count", x.node(0, 1), 2);
    }

    private static void noSuchMessage() {
        SharedShelf x = new SharedShelf(3);
        CHECKS.due("message(0, 0) of none", x.message(0, 0), -1);
        CHECKS.due("vector(0, 0) of none", x.vector(0, 0), -1);
        x.update(2, 0, 1, 0);
        x.calm(1);
        for (int i : new int[] {-1, 3, 2000, Integer.MIN_VALUE, Integer.MAX_VALUE}) {
            for (int what = 0; what < 4; what++) {
                CHECKS.due("message(" + i + ", " + what + ")", x.message(i, what), -1);
            }
            CHECKS.due("vector(" + i + ", 0)", x.vector(i, 0), -1);
        }
        for (int what : new int[] {-1, 4, 5, Integer.MIN_VALUE, Integer.MAX_VALUE}) {
            CHECKS.due("message(2, " + what + ")", x.message(2, what), -1);
        }
        for (int k : new int[] {-1, 3, 31, Integer.MIN_VALUE, Integer.MAX_VALUE}) {
            CHECKS.due("vector(2, " + k + ")", x.vector(2, k), -1);
        }
    }

    private static void vectors() {
        SharedShelf x = new SharedShelf(3);
        x.update(2, 0, 1, 0);
        x.calm(2000);
        x.update(2, 0, 1, 0);
        CHECKS.due("a COLLECT has none", x.vector(0, 2), -1);
        x.calm(1);
        CHECKS.due("a REPLY has what the node keeps", x.vector(2, 2), 1);
        CHECKS.due("of each", x.vector(2, 0), 0);
        CHECKS.due("of each", x.vector(2, 1), 0);
        Steps.throughPhase(x, 2);
        int store = Steps.find(x, 2, 2, 0);
        CHECKS.due("a STORE has CURRENT", x.vector(store, 2), 1);
        x.deliver(store);
        int ack = Steps.find(x, 3, 0, 2);
        for (int k = 0; k < 3; k++) {
            CHECKS.due("an ACK has none", x.vector(ack, k), -1);
        }
        x.calm(2000);
        x.update(0, 0, 1, 0);
        for (int phase = 0; phase < 4; phase++) {
            Steps.throughPhase(x, 0);
        }
        int write = Steps.findOfRound(x, 0);
        CHECKS.due("WRITING", x.node(0, 1), 3);
        CHECKS.due("a STORE of WRITING has the log's length", x.vector(write, 0), 1);
        CHECKS.due("and 0 for others", x.vector(write, 1), 0);
        CHECKS.due("though it keeps more", x.vector(write, 2), 0);
        CHECKS.due("as it does", x.kept(0, 2), 2);
    }
}
