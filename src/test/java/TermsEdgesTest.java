/**
 * The sentences of "Terms" that name a boundary case, each with a test of its own; the limits of
 * 2,000 MESSAGES and 511 OPERATIONS are looked at by RoomTest, the collects by CollectEdgesTest.
 */
public final class TermsEdgesTest {
    private static final Checks CHECKS = new Checks();

    public static void main(String[] args) {
        nodesAreNumbered();
        downStaysDown();
        downDoesNothing();
        messagesToDownAreGone();
        lengthsAtFirst();
        refusedTakeNoNumber();
        oneUnderWay();
        updatesAnswerNothing();
        sendingToAll();
        latestSentBehind();
        lengthsNeverFall();
        lengthsNumberByNumber();
        rounds();
        answersHaveTheRoundOfWhatTheyAnswer();
        answersOfAnotherRound();
        answersWhileIdle();
        moreThanHalf();
        itselfIsOneOfHalf();
        answersOutliveTheirSender();
        moments();
        throwsChangeNothing();
        refusalsChangeNothing();
        tellingChangesNothing();
        CHECKS.end();
    }

    private static void nodesAreNumbered() {
        CHECKS.sentence("NODES are 0 .. n - 1, UP at first");
        for (int n = 3; n <= 31; n++) {
            SharedShelf x = new SharedShelf(n);
            CHECKS.due("the first of " + n, x.node(0, 0), 1);
            CHECKS.due("the last of " + n, x.node(n - 1, 0), 1);
            CHECKS.due("ahead of the first of " + n, x.node(-1, 0), -1);
            CHECKS.due("behind the last of " + n, x.node(n, 0), -1);
            CHECKS.due("an update at the last of " + n, x.update(n - 1, 0, 0, 0), 1);
        }
    }

    private static void downStaysDown() {
        CHECKS.sentence("one that is DOWN stays so");
        SharedShelf x = new SharedShelf(3);
        x.update(1, 0, 1, 0);
        x.crash(1);
        x.crash(1);
        x.update(1, 0, 1, 0);
        x.query(1, 10, 0);
        x.query(0, 10, 0);
        x.calm(2000);
        CHECKS.due("it is UP", x.node(1, 0), 0);
        CHECKS.due("how many are", x.count(1), 2);
        CHECKS.due("crash(1)", x.crash(1), false);
    }

    /** In each PHASE of an UPDATE, the answer that was all it lacked comes to it behind its crash. */
    private static void downDoesNothing() {
        CHECKS.sentence("one that is DOWN does nothing");
        int[] phases = {1, 2, 1, 2, 3};
        for (int p = 0; p < phases.length; p++) {
            SharedShelf x = new SharedShelf(3);
            x.update(0, 0, 1, 0);
            Steps.throughPhases(x, 0, p);
            Steps.toTheBrink(x, 0);
            x.crash(0);
            int sent = x.count(3);
            int collects = x.told(1, 7);
            CHECKS.due("the answer comes", x.deliver(Steps.findOfRound(x, 0)), p % 2 == 0 && p < 4 ? 1 : 3);
            CHECKS.due("phase", x.node(0, 1), phases[p]);
            CHECKS.due("round", x.node(0, 2), p + 1);
            CHECKS.due("operation under way", x.node(0, 3), 1);
            CHECKS.due("answers", x.node(0, 4), 1);
            CHECKS.due("log", x.node(0, 5), p == 4 ? 1 : 0);
            CHECKS.due("sent", x.count(3), sent);
            CHECKS.due("collects", x.told(1, 7), collects);
            CHECKS.due("DONE", x.told(1, 4), 0);
            CHECKS.due("VIEW", x.view(1, 0), p == 4 ? 0 : -1);
        }
    }

    private static void messagesToDownAreGone() {
        CHECKS.sentence("MESSAGES to it are gone as they come");
        for (int kind = 0; kind <= 3; kind++) {
            SharedShelf x = new SharedShelf(3);
            Steps.write(x, 2, 1);
            x.update(2, 0, 1, 0);
            Steps.throughPhases(x, 2, 4);
            Steps.ask(x, 2, 1);
            x.query(1, 10, 0);
            Steps.ask(x, 1, 0);
            int write = x.node(2, 2);
            int[] ofKind = {Steps.findAsk(x, 1, 2, 1), Steps.findAnswer(x, 1, 0, 1),
                Steps.findAsk(x, 2, 0, write), Steps.findAnswer(x, 2, 1, write)};
            int i = ofKind[kind];
            int receiver = x.message(i, 2);
            x.crash(receiver);
            String kept = kept(x, receiver);
            int[] before = {x.count(2), x.count(3), x.count(4), x.count(7)};
            CHECKS.due("its kind", x.deliver(i), kind);
            CHECKS.due("on their way", x.count(2), before[0] - 1);
            CHECKS.due("sent", x.count(3), before[1]);
            CHECKS.due("came", x.count(4), before[2] + 1);
            CHECKS.due("moment", x.count(7), before[3] + 1);
            CHECKS.dueSame("what it keeps", kept(x, receiver), kept);
        }
    }

    private static String kept(SharedShelf x, int node) {
        StringBuilder text = new StringBuilder();
        for (int s = 0; s < x.count(0); s++) {
            text.append(x.kept(node, s)).append(' ');
        }
        for (int what = 0; what <= 5; what++) {
            text.append(x.node(node, what)).append(' ');
        }
        return text.toString();
    }

    private static void lengthsAtFirst() {
        CHECKS.sentence("Each NODE keeps of each NODE's SEGMENT a LENGTH (0 at first)");
        for (int n : new int[] {3, 31}) {
            SharedShelf x = new SharedShelf(n);
            for (int k = 0; k < n * n; k++) {
                CHECKS.due("kept(" + k / n + ", " + k % n + ")", x.kept(k / n, k % n), 0);
            }
            x.query(0, 10, 0);
            x.calm(1);
            for (int k = 0; k < n; k++) {
                CHECKS.due("in a REPLY", x.vector(n - 1, k), 0);
            }
        }
    }

    private static void refusedTakeNoNumber() {
        CHECKS.sentence("OPERATIONS are numbered 1, 2, .. as they begin");
        SharedShelf x = new SharedShelf(4);
        x.crash(3);
        CHECKS.due("at 3, which is DOWN", x.query(3, 10, 0), -1);
        CHECKS.dueThrow("at 4", IndexOutOfBoundsException.class, () -> x.update(4, 0, 1, 1));
        CHECKS.dueThrow("of kind 4", IllegalArgumentException.class, () -> x.update(0, 4, 1, 1));
        CHECKS.due("the first", x.update(2, 0, 1, 1), 1);
        CHECKS.due("where one is under way", x.update(2, 0, 1, 1), -1);
        CHECKS.due("the second", x.query(0, 15, 1), 2);
        CHECKS.due("told(0, 0)", x.told(0, 0), -1);
        CHECKS.due("told(3, 0)", x.told(3, 0), -1);
    }

    private static void oneUnderWay() {
        CHECKS.sentence("a NODE has one at most under way");
        int[] phases = {1, 2, 1, 2, 3};
        for (int p = 0; p < phases.length; p++) {
            SharedShelf x = new SharedShelf(3);
            x.update(1, 0, 1, 0);
            Steps.throughPhases(x, 1, p);
            CHECKS.due("phase", x.node(1, 1), phases[p]);
            String before = State.of(x);
            CHECKS.due("update", x.update(1, 0, 1, 0), -1);
            CHECKS.due("query", x.query(1, 10, 0), -1);
            CHECKS.dueSame("refused", State.of(x), before);
            CHECKS.due("at another", x.query(2, 10, 0), 2);
            Steps.throughOperation(x, 1);
            CHECKS.due("behind its end", x.query(1, 10, 0), 3);
        }
    }

    private static void updatesAnswerNothing() {
        CHECKS.sentence("An UPDATE answers 0");
        for (int kind = 0; kind <= 3; kind++) {
            SharedShelf x = new SharedShelf(3);
            for (int k = 1; k <= 2; k++) {
                x.update(0, kind, 7, 9);
                x.calm(2000);
                CHECKS.due("DONE", x.told(k, 4), 1);
                CHECKS.due("update of kind " + kind, x.answer(k), 0);
            }
        }
    }

    private static void sendingToAll() {
        CHECKS.sentence("Sending to all is to each NODE, itself too, in order");
        for (int n : new int[] {3, 4, 31}) {
            SharedShelf x = new SharedShelf(n);
            x.crash(0);
            x.crash(n - 1);
            x.update(1, 0, 1, 0);
            CHECKS.due("on their way", x.count(2), n);
            for (int k = 0; k < n; k++) {
                CHECKS.due("receiver of COLLECT " + k, x.message(k, 2), k);
            }
            if (n > 4) {
                Steps.throughPhases(x, 1, 1);
                int first = x.count(2) - n;
                for (int k = 0; k < n; k++) {
                    CHECKS.due("kind", x.message(first + k, 0), 2);
                    CHECKS.due("receiver of STORE " + k, x.message(first + k, 2), k);
                }
            }
        }
    }

    private static void latestSentBehind() {
        CHECKS.sentence("MESSAGES are on their way in a row, the latest sent behind");
        SharedShelf x = new SharedShelf(3);
        x.query(2, 10, 0);
        x.query(0, 10, 0);
        x.deliver(1);
        x.deliver(3);
        int[][] due = {{0, 2, 0}, {0, 2, 2}, {0, 0, 0}, {0, 0, 2}, {1, 1, 2}, {1, 1, 0}};
        CHECKS.due("on their way", x.count(2), due.length);
        for (int i = 0; i < due.length; i++) {
            for (int what = 0; what < 3; what++) {
                CHECKS.due("message(" + i + ", " + what + ")", x.message(i, what), due[i][what]);
            }
        }
    }

    private static void lengthsNeverFall() {
        CHECKS.sentence("each LENGTH of the receiver becomes the VECTOR's number, if that is greater");
        SharedShelf x = new SharedShelf(3);
        x.update(0, 0, 1, 0);
        Steps.throughPhases(x, 0, 4);
        int round = x.node(0, 2);
        Steps.phaseWith(x, 0, 0, 1);
        CHECKS.due("DONE without 2", x.told(1, 4), 1);
        CHECKS.due("2 keeps", x.kept(2, 0), 0);
        Steps.write(x, 0, 1);
        CHECKS.due("2 keeps", x.kept(2, 0), 2);
        int late = Steps.findAsk(x, 0, 2, round);
        CHECKS.due("a STORE of 1 comes", x.vector(late, 0), 1);
        CHECKS.due("its kind", x.deliver(late), 2);
        CHECKS.due("2 keeps the greater", x.kept(2, 0), 2);
        x.query(1, 10, 0);
        Steps.throughPhases(x, 1, 1);
        int equal = Steps.findAsk(x, 1, 2, x.node(1, 2));
        CHECKS.due("a STORE of 2 comes", x.vector(equal, 0), 2);
        x.deliver(equal);
        CHECKS.due("2 keeps what is equal", x.kept(2, 0), 2);
        CHECKS.due("and sends ACK", x.message(x.count(2) - 1, 0), 3);
    }

    /** A STORE whose VECTOR is greater in one number and lesser in another. */
    private static void lengthsNumberByNumber() {
        CHECKS.sentence("each LENGTH becomes the VECTOR's number");
        SharedShelf x = new SharedShelf(5);
        writeWith(x, 1, 0, 1, 2);
        x.query(0, 10, 0);
        Steps.phaseWith(x, 0, 0, 1, 2);
        writeWith(x, 3, 2, 3, 4);
        CHECKS.due("4 keeps of 3", x.kept(4, 3), 1);
        int store = Steps.findAsk(x, 0, 4, x.node(0, 2));
        CHECKS.due("the VECTOR has of 1", x.vector(store, 1), 1);
        CHECKS.due("the VECTOR has of 3", x.vector(store, 3), 0);
        x.deliver(store);
        CHECKS.due("4 keeps of 1", x.kept(4, 1), 1);
        CHECKS.due("4 keeps of 3", x.kept(4, 3), 1);
        CHECKS.due("4 keeps of 0", x.kept(4, 0), 0);
    }

    private static void writeWith(SharedShelf x, int node, int... helpers) {
        x.update(node, 0, 1, 0);
        for (int k = 0; k < 5; k++) {
            Steps.phaseWith(x, node, helpers);
        }
    }

    private static void rounds() {
        CHECKS.sentence("a ROUND, 0 at first, that is 1 more each time that it sends to all");
        SharedShelf x = new SharedShelf(3);
        CHECKS.due("at first", x.node(0, 2), 0);
        x.update(0, 0, 1, 0);
        for (int p = 1; p <= 5; p++) {
            CHECKS.due("of an UPDATE", x.node(0, 2), p);
            CHECKS.due("in its MESSAGES", x.message(x.count(2) - 1, 3), p);
            Steps.throughPhase(x, 0);
        }
        CHECKS.due("DONE", x.node(0, 2), 5);
        x.query(0, 10, 0);
        Steps.throughOperation(x, 0);
        CHECKS.due("behind a QUERY", x.node(0, 2), 9);
        CHECKS.due("of those that only answer", x.node(1, 2) + x.node(2, 2), 0);
    }

    private static void answersHaveTheRoundOfWhatTheyAnswer() {
        CHECKS.sentence("Answers have the ROUND of what they answer");
        SharedShelf x = new SharedShelf(3);
        Steps.write(x, 1, 1);
        x.query(0, 10, 0);
        Steps.ask(x, 0, 1);
        CHECKS.due("REPLY of one whose ROUND is 5", x.message(x.count(2) - 1, 3), 1);
        x.query(2, 10, 0);
        Steps.throughCollect(x, 2);
        int late = Steps.findAsk(x, 0, 2, 1);
        x.deliver(late);
        CHECKS.due("REPLY of one whose ROUND is 3", x.message(x.count(2) - 1, 3), 1);
        Steps.throughPhase(x, 0);
        Steps.ask(x, 0, 1);
        CHECKS.due("ACK of one whose ROUND is 5", x.message(x.count(2) - 1, 3), 2);
        CHECKS.due("it is an ACK", x.message(x.count(2) - 1, 0), 3);
    }

    /** The late REPLY or ACK of each ROUND comes in each later PHASE, and counts in none of them. */
    private static void answersOfAnotherRound() {
        CHECKS.sentence("REPLIES and ACKS of another ROUND do nothing");
        for (int old = 1; old <= 4; old++) {
            for (int later = old + 1; later <= 5; later++) {
                SharedShelf x = new SharedShelf(3);
                x.update(0, 0, 1, 0);
                Steps.throughPhases(x, 0, later - 1);
                Steps.toTheBrink(x, 0);
                int late = Steps.findAnswer(x, 0, 2, old);
                String before = kept(x, 0);
                int sent = x.count(3);
                CHECKS.due("an answer of ROUND " + old, x.deliver(late), old % 2 == 1 ? 1 : 3);
                CHECKS.dueSame("in ROUND " + later, kept(x, 0), before);
                CHECKS.due("sent", x.count(3), sent);
                CHECKS.due("DONE", x.count(6), 0);
                Steps.throughPhase(x, 0);
                CHECKS.due("the one that it lacked", later == 5 ? x.count(6) : x.node(0, 2) - later, 1);
            }
        }
    }

    private static void answersWhileIdle() {
        CHECKS.sentence("or in a PHASE that does not wait for them, do nothing");
        for (int isUpdate = 0; isUpdate <= 1; isUpdate++) {
            SharedShelf x = new SharedShelf(3);
            int operation = isUpdate == 1 ? x.update(0, 0, 1, 0) : x.query(0, 10, 0);
            Steps.throughOperation(x, 0);
            int moment = x.told(operation, 6);
            int late = Steps.findAnswer(x, 0, 2, x.node(0, 2));
            String before = kept(x, 0);
            CHECKS.due("an ACK of this ROUND while IDLE", x.deliver(late), 3);
            CHECKS.dueSame("it does nothing", kept(x, 0), before);
            CHECKS.due("DONE", x.count(6), 1);
            CHECKS.due("when it was DONE", x.told(operation, 6), moment);
            x.query(0, 10, 0);
            Steps.throughOperation(x, 0);
            CHECKS.due("collects of the next", x.told(2, 7), 2);
        }
    }

    private static void moreThanHalf() {
        CHECKS.sentence("As more than half of the NODES have REPLIED / sent ACK");
        int[] next = {2, 1, 2, 3, 0};
        for (int n = 3; n <= 31; n++) {
            SharedShelf x = new SharedShelf(n);
            x.update(0, 0, 1, 0);
            for (int p = 0; p < next.length; p++) {
                int phase = x.node(0, 1);
                Steps.phaseWith(x, 0, some(n, n / 2));
                CHECKS.due(n / 2 + " of " + n, x.node(0, 1), phase);
                CHECKS.due("answers", x.node(0, 4), n / 2);
                CHECKS.due("round", x.node(0, 2), p + 1);
                Steps.phaseWith(x, 0, (n / 2 + 1) % n);
                CHECKS.due(n / 2 + 1 + " of " + n, x.node(0, 1), next[p]);
                CHECKS.due("answers in the next PHASE", x.node(0, 4), 0);
            }
            CHECKS.due("DONE", x.told(1, 4), 1);
        }
    }

    /** The NODES 1, 2, .., so many of them. */
    private static int[] some(int n, int count) {
        int[] found = new int[count];
        for (int k = 0; k < count; k++) {
            found[k] = (k + 1) % n;
        }
        return found;
    }

    private static void itselfIsOneOfHalf() {
        CHECKS.sentence("more than half of the NODES (itself too)");
        SharedShelf x = new SharedShelf(3);
        x.crash(2);
        x.update(0, 0, 1, 0);
        for (int p = 0; p < 5; p++) {
            Steps.phaseWith(x, 0, 1, 0);
        }
        CHECKS.due("DONE", x.told(1, 4), 1);
        x.crash(1);
        x.query(0, 10, 0);
        x.calm(2000);
        CHECKS.due("half of them and fewer do not do", x.told(2, 4), 0);
        CHECKS.due("one answered", x.node(0, 4), 1);
    }

    private static void answersOutliveTheirSender() {
        CHECKS.sentence("nodes go down for good (what they sent ahead of it comes)");
        SharedShelf x = new SharedShelf(3);
        x.query(0, 10, 0);
        x.calm(3);
        x.crash(1);
        x.crash(2);
        CHECKS.due("REPLY of 2", Steps.hear(x, 0, 2), 1);
        CHECKS.due("REPLY of 1", Steps.hear(x, 0, 1), 1);
        CHECKS.due("phase", x.node(0, 1), 2);
    }

    private static void moments() {
        CHECKS.sentence("MOMENTS count the calls that did something: update(), query(), crash() one each, "
                + "each MESSAGE that came one");
        SharedShelf x = new SharedShelf(3);
        x.calm(0);
        x.calm(2000);
        CHECKS.due("calm() of nothing", x.count(7), 0);
        CHECKS.dueThrow("calm(-1)", IllegalArgumentException.class, () -> x.calm(-1));
        CHECKS.dueThrow("deliver(0)", IndexOutOfBoundsException.class, () -> x.deliver(0));
        CHECKS.dueThrow("crash(3)", IndexOutOfBoundsException.class, () -> x.crash(3) ? 1 : 0);
        CHECKS.due("what throws", x.count(7), 0);
        x.update(0, 0, 1, 1);
        CHECKS.due("update()", x.count(7), 1);
        x.update(0, 0, 1, 1);
        x.query(0, 10, 1);
        CHECKS.due("NONE", x.count(7), 1);
        x.query(1, 10, 1);
        CHECKS.due("query()", x.count(7), 2);
        CHECKS.due("in which they began", x.told(1, 5) * 10 + x.told(2, 5), 12);
        x.crash(2);
        CHECKS.due("crash()", x.count(7), 3);
        x.crash(2);
        CHECKS.due("crash() of one that is DOWN", x.count(7), 3);
        x.deliver(5);
        CHECKS.due("a MESSAGE to one that is DOWN", x.count(7), 4);
        x.calm(2);
        CHECKS.due("calm(2)", x.count(7), 6);
        int came = x.calm(2000);
        CHECKS.due("calm(2000)", x.count(7), 6 + came);
        CHECKS.due("the UPDATE is DONE with the last one", x.told(1, 6), x.count(7));
        CHECKS.due("the QUERY, ahead of 3 STORES and 2 ACKS of WRITING", x.told(2, 6), x.count(7) - 5);
    }

    /** Calls that throw, as many as there are ways to. */
    private static void throwing(SharedShelf x) {
        int n = x.count(0);
        for (int node : new int[] {-1, n, Integer.MIN_VALUE, Integer.MAX_VALUE}) {
            CHECKS.dueThrow("update", IndexOutOfBoundsException.class, () -> x.update(node, 0, 1, 1));
            CHECKS.dueThrow("query", IndexOutOfBoundsException.class, () -> x.query(node, 10, 1));
            CHECKS.dueThrow("crash", IndexOutOfBoundsException.class, () -> x.crash(node) ? 1 : 0);
        }
        for (int k = 0; k < n; k++) {
            int node = k;
            CHECKS.dueThrow("update", IllegalArgumentException.class, () -> x.update(node, 4, 1, 1));
            CHECKS.dueThrow("query", IllegalArgumentException.class, () -> x.query(node, 9, 1));
        }
        CHECKS.dueThrow("deliver", IndexOutOfBoundsException.class, () -> x.deliver(-1));
        CHECKS.dueThrow("deliver", IndexOutOfBoundsException.class, () -> x.deliver(x.count(2)));
        CHECKS.dueThrow("calm", IllegalArgumentException.class, () -> x.calm(-1));
        CHECKS.dueThrow("calm", IllegalArgumentException.class, () -> x.calm(2001));
    }

    /** Calls that answer that nothing was done. */
    private static void refused(SharedShelf x) {
        for (int node = 0; node < x.count(0); node++) {
            if (x.node(node, 0) == 0) {
                CHECKS.due("crash of one that is DOWN", x.crash(node), false);
            }
            if (x.node(node, 0) == 0 || x.node(node, 3) != 0) {
                CHECKS.due("update", x.update(node, 3, 8, 8), -1);
                CHECKS.due("query", x.query(node, 14, 8), -1);
            }
        }
        CHECKS.due("calm(0)", x.calm(0), 0);
    }

    interface Between {
        void make(SharedShelf x);
    }

    /** A course with a crash and a VIEW that is BORROWED; behind each step comes what is between. */
    private static void dueSameCourse(Between between) {
        SharedShelf x = new SharedShelf(4);
        SharedShelf twin = new SharedShelf(4);
        int[][] acts = {{0, 0}, {1, 0}, {2, 1}, {1, 0}, {2, 1}, {1, 0}, {0, 2}, {1, 2}, {3, 3}, {0, 1}, {4, 7},
            {3, 2}, {4, 9}, {3, 0}, {3, 1}, {4, 2000}};
        for (int[] act : acts) {
            between.make(x);
            String before = State.of(x);
            between.make(x);
            CHECKS.dueSame("nothing changes", State.of(x), before);
            act(x, act);
            act(twin, act);
            CHECKS.dueSame("behind it", State.of(x), State.of(twin));
        }
        CHECKS.due("BORROWED", x.count(8), 1);
        CHECKS.due("UP", x.count(1), 0);
    }

    private static void act(SharedShelf x, int[] act) {
        switch (act[0]) {
            case 0: x.query(act[1], 10, 0); break;
            case 1: Steps.throughCollect(x, act[1]); break;
            case 2: Steps.write(x, act[1], 1); break;
            case 3: x.crash(act[1]); break;
            default: x.calm(act[1]);
        }
    }

    private static void throwsChangeNothing() {
        CHECKS.sentence("What throws changes nothing");
        dueSameCourse(TermsEdgesTest::throwing);
    }

    private static void refusalsChangeNothing() {
        CHECKS.sentence("MOMENTS count the calls that did something (NONE, false and 0 did not)");
        dueSameCourse(TermsEdgesTest::refused);
    }

    private static void tellingChangesNothing() {
        CHECKS.sentence("told, answer, view, node, kept, message, vector, count and astray only tell");
        dueSameCourse(State::of);
    }
}
