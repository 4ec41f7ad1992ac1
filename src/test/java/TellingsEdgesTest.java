/**
 * The sentences of promises 7 to 14 (told, answer, view, node, kept, message, vector, count) that
 * name a boundary case, each with a test of its own; those of promise 15 stand in AstrayTest.
 */
public final class TellingsEdgesTest {
    private static final Checks CHECKS = new Checks();
    private static final int LEAST = Integer.MIN_VALUE;
    private static final int MOST = Integer.MAX_VALUE;

    public static void main(String[] args) {
        toldA();
        toldB();
        toldDone();
        toldMoments();
        toldCollects();
        toldLender();
        toldPlace();
        toldOthers();
        toldOfNone();
        answerOfUndone();
        answerOfNone();
        viewNotYet();
        viewOfNone();
        nodeUnderWay();
        nodeAnswers();
        nodeOthers();
        keptOfNone();
        messageOthers();
        vectorWithout();
        vectorOfNone();
        counts();
        countOthers();
        CHECKS.end();
    }

    private static void toldA() {
        CHECKS.sentence("7: 2 a (as told, also where it does not matter)");
        SharedShelf x = new SharedShelf(10);
        int[] a = {LEAST, -1, 0, MOST, 7, -7, 1, LEAST + 1, MOST - 1, -2};
        for (int k = 0; k < 10; k++) {
            int operation = k < 4 ? x.update(k, k, a[k], 5) : x.query(k, k + 6, a[k]);
            CHECKS.due("told(" + operation + ", 2)", x.told(operation, 2), a[k]);
        }
    }

    private static void toldB() {
        CHECKS.sentence("7: 3 b (0 of QUERIES)");
        SharedShelf x = new SharedShelf(10);
        int[] b = {LEAST, -1, MOST, 3};
        for (int k = 0; k < 10; k++) {
            int operation = k < 4 ? x.update(k, k, 9, b[k]) : x.query(k, k + 6, 9);
            CHECKS.due("told(" + operation + ", 3)", x.told(operation, 3), k < 4 ? b[k] : 0);
        }
    }

    private static void toldDone() {
        CHECKS.sentence("7: 4 whether it is DONE (1)");
        SharedShelf x = new SharedShelf(3);
        x.update(0, 0, 1, 1);
        for (int p = 0; p < 5; p++) {
            CHECKS.due("told(1, 4)", x.told(1, 4), 0);
            Steps.toTheBrink(x, 0);
            CHECKS.due("told(1, 4), one answer ahead", x.told(1, 4), 0);
            Steps.throughPhase(x, 0);
        }
        CHECKS.due("told(1, 4)", x.told(1, 4), 1);
    }

    private static void toldMoments() {
        CHECKS.sentence("7: 5 the MOMENT in which it began, 6 in which it was DONE (NONE before)");
        SharedShelf x = new SharedShelf(3);
        x.crash(2);
        x.query(0, 10, 0);
        x.update(1, 0, 1, 1);
        CHECKS.due("told(1, 5)", x.told(1, 5), 2);
        CHECKS.due("told(2, 5)", x.told(2, 5), 3);
        Steps.throughPhases(x, 0, 3);
        Steps.toTheBrink(x, 0);
        CHECKS.due("told(1, 6)", x.told(1, 6), -1);
        Steps.throughPhase(x, 0);
        int moment = x.count(7);
        CHECKS.due("told(1, 6)", x.told(1, 6), moment);
        Steps.throughPhases(x, 1, 4);
        CHECKS.due("told(2, 6) while WRITING", x.told(2, 6), -1);
        x.calm(2000);
        CHECKS.due("told(1, 6) stays", x.told(1, 6), moment);
        CHECKS.due("told(1, 5) stays", x.told(1, 5), 2);
        CHECKS.due("told(2, 6), the last MOMENT of all", x.told(2, 6), x.count(7));
    }

    private static void toldCollects() {
        CHECKS.sentence("7: 7 collects that it made");
        SharedShelf x = new SharedShelf(3);
        x.update(0, 0, 1, 1);
        int[] due = {0, 0, 1, 1, 2};
        for (int p = 0; p < due.length; p++) {
            CHECKS.due("told(1, 7) in PHASE " + x.node(0, 1), x.told(1, 7), due[p]);
            CHECKS.due("count(9)", x.count(9), due[p]);
            Steps.throughPhase(x, 0);
        }
        CHECKS.due("told(1, 7), DONE", x.told(1, 7), 2);
    }

    private static void toldLender() {
        CHECKS.sentence("7: 8 the NODE that its VIEW was BORROWED from (NONE without)");
        for (int lender = 0; lender <= 1; lender++) {
            SharedShelf x = new SharedShelf(3);
            x.query(2, 10, 0);
            CHECKS.due("without a VIEW", x.told(1, 8), -1);
            Steps.throughCollect(x, 2);
            for (int times = 0; times < 2; times++) {
                Steps.write(x, lender, 1);
                CHECKS.due("ahead of it", x.told(1, 8), -1);
                Steps.throughCollect(x, 2);
            }
            CHECKS.due("BORROWED", x.told(1, 8), lender);
            CHECKS.due("of the lender", x.told(3, 8), -1);
        }
    }

    private static void toldPlace() {
        CHECKS.sentence("7: 9 of an UPDATE its place in the LOG (1 the first; 0: not WRITTEN yet, or a QUERY)");
        SharedShelf x = new SharedShelf(3);
        Steps.write(x, 1, 1);
        CHECKS.due("the first of 1", x.told(1, 9), 1);
        x.update(0, 0, 1, 1);
        Steps.throughPhases(x, 0, 3);
        Steps.toTheBrink(x, 0);
        CHECKS.due("not WRITTEN yet", x.told(2, 9), 0);
        Steps.throughPhase(x, 0);
        CHECKS.due("WRITTEN, not DONE", x.told(2, 9), 1);
        Steps.write(x, 1, 1);
        CHECKS.due("the second of 1", x.told(3, 9), 2);
        x.query(2, 10, 0);
        CHECKS.due("a QUERY", x.told(4, 9), 0);
        Steps.throughOperation(x, 2);
        CHECKS.due("a QUERY that is DONE", x.told(4, 4) * 10 + x.told(4, 9), 10);
        x.crash(0);
        CHECKS.due("of one that is DOWN", x.told(2, 9), 1);
    }

    private static void toldOthers() {
        CHECKS.sentence("7: NONE for others");
        SharedShelf x = new SharedShelf(3);
        Steps.write(x, 0, 1);
        x.query(1, 10, 0);
        for (int what : new int[] {-1, 10, 11, 256, LEAST, MOST}) {
            CHECKS.due("told(1, " + what + ")", x.told(1, what), -1);
            CHECKS.due("told(2, " + what + ")", x.told(2, what), -1);
        }
    }

    private static void toldOfNone() {
        CHECKS.sentence("7: NONE if there is none such");
        SharedShelf x = new SharedShelf(3);
        for (int begun = 0; begun <= 2; begun++) {
            for (int operation : new int[] {-1, 0, begun + 1, 511, 512, 513, LEAST, MOST}) {
                for (int what = -1; what <= 10; what++) {
                    CHECKS.due("told(" + operation + ", " + what + ")", x.told(operation, what), -1);
                }
            }
            x.query(begun, 10, 0);
        }
    }

    private static void answerOfUndone() {
        CHECKS.sentence("8: 0 of one that is not DONE");
        SharedShelf x = new SharedShelf(3);
        Steps.write(x, 1, 5);
        x.query(0, 10, 0);
        for (int p = 0; p < 4; p++) {
            Steps.toTheBrink(x, 0);
            CHECKS.due("of a QUERY", x.answer(2), 0);
            Steps.throughPhase(x, 0);
        }
        CHECKS.due("of one that is DONE", x.answer(2), 5);
        x.query(0, 11, 0);
        CHECKS.due("though none would be the least long", x.answer(3), 0);
        x.crash(0);
        x.calm(2000);
        CHECKS.due("of one that is never DONE", x.answer(3), 0);
    }

    private static void answerOfNone() {
        CHECKS.sentence("8: 0 if there is none such");
        SharedShelf x = new SharedShelf(3);
        Steps.write(x, 1, 5);
        x.query(0, 10, 0);
        Steps.throughOperation(x, 0);
        for (int operation : new int[] {-1, 0, 3, 511, 512, 513, LEAST, MOST}) {
            CHECKS.due("answer(" + operation + ")", x.answer(operation), 0);
        }
        CHECKS.due("the last one's", x.answer(2), 5);
    }

    private static void viewNotYet() {
        CHECKS.sentence("9: NONE: it has none yet");
        SharedShelf x = new SharedShelf(3);
        Steps.write(x, 1, 5);
        x.update(0, 0, 1, 1);
        Steps.throughPhases(x, 0, 3);
        Steps.toTheBrink(x, 0);
        for (int k = 0; k < 3; k++) {
            CHECKS.due("view(2, " + k + ")", x.view(2, k), -1);
        }
        Steps.throughPhase(x, 0);
        CHECKS.due("not DONE, with a VIEW", x.told(2, 4), 0);
        for (int k = 0; k < 3; k++) {
            CHECKS.due("view(2, " + k + ")", x.view(2, k), k == 1 ? 1 : 0);
        }
    }

    private static void viewOfNone() {
        CHECKS.sentence("9: NONE: there is no such OPERATION, NODE");
        for (int n : new int[] {3, 31}) {
            SharedShelf x = new SharedShelf(n);
            Steps.write(x, 1, 5);
            for (int wrong : new int[] {-1, 0, 2, 511, 512, LEAST, MOST}) {
                CHECKS.due("view(" + wrong + ", 0)", x.view(wrong, 0), -1);
            }
            for (int wrong : new int[] {-1, n, 32, LEAST, MOST}) {
                CHECKS.due("view(1, " + wrong + ")", x.view(1, wrong), -1);
                CHECKS.due("view(" + wrong + ", " + wrong + ")", x.view(wrong, wrong), -1);
            }
            CHECKS.due("view(1, " + (n - 1) + ")", x.view(1, n - 1), 0);
        }
    }

    private static void nodeUnderWay() {
        CHECKS.sentence("10: 3 the OPERATION under way (0: none; one that is DOWN keeps it)");
        SharedShelf x = new SharedShelf(3);
        CHECKS.due("at first", x.node(0, 3), 0);
        x.query(1, 10, 0);
        x.update(0, 0, 1, 1);
        CHECKS.due("under way", x.node(0, 3), 2);
        Steps.throughOperation(x, 0);
        CHECKS.due("DONE", x.node(0, 3), 0);
        x.crash(1);
        CHECKS.due("DOWN", x.node(1, 3), 1);
        x.crash(0);
        CHECKS.due("DOWN without one", x.node(0, 3), 0);
        x.calm(2000);
        CHECKS.due("DOWN, as all came", x.node(1, 3), 1);
    }

    private static void nodeAnswers() {
        CHECKS.sentence("10: 4 how many REPLIED or sent ACK in this ROUND (0 if IDLE)");
        SharedShelf x = new SharedShelf(5);
        CHECKS.due("at first", x.node(0, 4), 0);
        x.update(0, 0, 1, 1);
        for (int p = 0; p < 5; p++) {
            for (int k = 0; k < 3; k++) {
                CHECKS.due("in PHASE " + x.node(0, 1), x.node(0, 4), k);
                Steps.ask(x, 0, k);
                CHECKS.due("as it is asked", x.node(0, 4), k);
                Steps.hear(x, 0, k);
            }
        }
        CHECKS.due("IDLE", x.node(0, 4), 0);
        Steps.ask(x, 0, 3);
        Steps.hear(x, 0, 3);
        CHECKS.due("IDLE, behind an ACK of this ROUND", x.node(0, 4), 0);
    }

    private static void nodeOthers() {
        CHECKS.sentence("10: NONE for others, or if there is none such");
        for (int n : new int[] {3, 31}) {
            SharedShelf x = new SharedShelf(n);
            x.query(0, 10, 0);
            for (int what : new int[] {-1, 6, 7, 256, LEAST, MOST}) {
                CHECKS.due("node(0, " + what + ")", x.node(0, what), -1);
            }
            for (int node : new int[] {-1, n, 32, LEAST, MOST}) {
                for (int what = -1; what <= 6; what++) {
                    CHECKS.due("node(" + node + ", " + what + ")", x.node(node, what), -1);
                }
            }
            CHECKS.due("node(" + (n - 1) + ", 5)", x.node(n - 1, 5), 0);
        }
    }

    private static void keptOfNone() {
        CHECKS.sentence("11: NONE if there is no such NODE, SEGMENT");
        for (int n : new int[] {3, 31}) {
            SharedShelf x = new SharedShelf(n);
            for (int wrong : new int[] {-1, n, n + 1, 32, LEAST, MOST}) {
                CHECKS.due("kept(" + wrong + ", 0)", x.kept(wrong, 0), -1);
                CHECKS.due("kept(0, " + wrong + ")", x.kept(0, wrong), -1);
                CHECKS.due("kept(" + wrong + ", " + wrong + ")", x.kept(wrong, wrong), -1);
            }
            CHECKS.due("the last of the last", x.kept(n - 1, n - 1), 0);
        }
    }

    private static void messageOthers() {
        CHECKS.sentence("12: NONE for others, or if there is none such");
        SharedShelf x = new SharedShelf(3);
        for (int what = -1; what <= 4; what++) {
            CHECKS.due("message(0, " + what + ") of a new object", x.message(0, what), -1);
        }
        x.query(1, 10, 0);
        for (int what : new int[] {-1, 4, 5, 256, LEAST, MOST}) {
            CHECKS.due("message(0, " + what + ")", x.message(0, what), -1);
        }
        for (int i : new int[] {-1, 3, 1999, 2000, 2001, LEAST, MOST}) {
            for (int what = 0; what <= 3; what++) {
                CHECKS.due("message(" + i + ", " + what + ")", x.message(i, what), -1);
            }
        }
        CHECKS.due("the last one's receiver", x.message(2, 2), 2);
        x.calm(2000);
        CHECKS.due("as all came", x.message(0, 0), -1);
    }

    private static void vectorWithout() {
        CHECKS.sentence("13: NONE without (a COLLECT, an ACK)");
        SharedShelf x = new SharedShelf(3);
        Steps.write(x, 1, 1);
        x.calm(2000);
        x.query(1, 10, 0);
        Steps.throughPhases(x, 1, 1);
        Steps.ask(x, 1, 0);
        x.query(0, 10, 0);
        int[] ofKind = {Steps.find(x, 0, 0, 1), Steps.find(x, 1, 2, 1), Steps.find(x, 2, 1, 2), Steps.find(x, 3, 0, 1)};
        for (int k = 0; k < 3; k++) {
            CHECKS.due("a COLLECT", x.vector(ofKind[0], k), -1);
            CHECKS.due("a REPLY", x.vector(ofKind[1], k), k == 1 ? 1 : 0);
            CHECKS.due("a STORE", x.vector(ofKind[2], k), k == 1 ? 1 : 0);
            CHECKS.due("an ACK", x.vector(ofKind[3], k), -1);
        }
    }

    private static void vectorOfNone() {
        CHECKS.sentence("13: NONE without (no such MESSAGE, no such number)");
        for (int n : new int[] {3, 31}) {
            SharedShelf x = new SharedShelf(n);
            CHECKS.due("of a new object", x.vector(0, 0), -1);
            x.query(1, 10, 0);
            x.calm(1);
            CHECKS.due("it is a REPLY", x.message(n - 1, 0), 1);
            for (int k : new int[] {-1, n, n + 1, 32, LEAST, MOST}) {
                CHECKS.due("vector(" + (n - 1) + ", " + k + ")", x.vector(n - 1, k), -1);
            }
            for (int i : new int[] {-1, n, 1999, 2000, 2001, LEAST, MOST}) {
                CHECKS.due("vector(" + i + ", 0)", x.vector(i, 0), -1);
            }
            CHECKS.due("its last number", x.vector(n - 1, n - 1), 0);
        }
    }

    private static void counts() {
        CHECKS.sentence("14: 0 NODES .. 9 the most collects of one OPERATION");
        SharedShelf x = new SharedShelf(3);
        dueCounts(x, 3, 3, 0, 0, 0, 0, 0, 0, 0, 0);
        x.query(0, 10, 0);
        dueCounts(x, 3, 3, 3, 3, 0, 1, 0, 1, 0, 0);
        Steps.throughCollect(x, 0);
        // 3 COLLECTS, 2 REPLIES, 3 STORES and 2 ACKS came; 1 REPLY, 1 ACK and 3 COLLECTS did not.
        dueCounts(x, 3, 3, 5, 15, 10, 1, 0, 11, 0, 1);
        Steps.write(x, 1, 1);
        Steps.throughCollect(x, 0);
        Steps.write(x, 1, 1);
        Steps.throughCollect(x, 0);
        dueCounts(x, 3, 3, 16, 96, 80, 3, 3, 83, 1, 3);
        x.crash(2);
        x.update(0, 0, 1, 1);
        x.calm(2000);
        dueCounts(x, 3, 2, 0, 121, 121, 4, 4, 126, 1, 3);
    }

    private static void dueCounts(SharedShelf x, int... numbers) {
        for (int what = 0; what < numbers.length; what++) {
            CHECKS.due("count(" + what + ")", x.count(what), numbers[what]);
        }
    }

    private static void countOthers() {
        CHECKS.sentence("14: NONE for others");
        SharedShelf x = new SharedShelf(3);
        for (int begun = 0; begun <= 1; begun++) {
            for (int what : new int[] {-1, 10, 11, 256, LEAST, MOST}) {
                CHECKS.due("count(" + what + ")", x.count(what), -1);
            }
            x.query(0, 10, 0);
        }
    }
}
