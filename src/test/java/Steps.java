/** Brings MESSAGES on their way in an order that a test needs, by the public face alone. */
final class Steps {
    private Steps() { }

    /** The first MESSAGE that has these (-1: any), or -1. */
    static int find(SharedShelf x, int kind, int sender, int receiver) {
        for (int i = 0; i < x.count(2); i++) {
            if ((kind < 0 || x.message(i, 0) == kind)
                    && (sender < 0 || x.message(i, 1) == sender)
                    && (receiver < 0 || x.message(i, 2) == receiver)) {
                return i;
            }
        }
        return -1;
    }

    private static boolean isAnswer(SharedShelf x, int i) {
        return x.message(i, 0) % 2 == 1;
    }

    /** The first MESSAGE of the ROUND that a NODE is in, asked by it or answered to it; -1 without. */
    static int findOfRound(SharedShelf x, int node) {
        for (int i = 0; i < x.count(2); i++) {
            int asker = x.message(i, isAnswer(x, i) ? 2 : 1);
            if (asker == node && x.message(i, 3) == x.node(node, 2)) {
                return i;
            }
        }
        return -1;
    }

    /** The COLLECT or STORE that a NODE sent this one in a ROUND; -1 without. */
    static int findAsk(SharedShelf x, int node, int helper, int round) {
        for (int i = 0; i < x.count(2); i++) {
            if (!isAnswer(x, i) && x.message(i, 1) == node && x.message(i, 2) == helper && x.message(i, 3) == round) {
                return i;
            }
        }
        return -1;
    }

    /** The REPLY or ACK of this one to what a NODE asked in a ROUND; -1 without. */
    static int findAnswer(SharedShelf x, int node, int helper, int round) {
        for (int i = 0; i < x.count(2); i++) {
            if (isAnswer(x, i) && x.message(i, 1) == helper && x.message(i, 2) == node && x.message(i, 3) == round) {
                return i;
            }
        }
        return -1;
    }

    /** An answer of a ROUND that its receiver has left behind: all it does as it comes is to go; -1 without. */
    static int findLate(SharedShelf x) {
        for (int i = 0; i < x.count(2); i++) {
            if (isAnswer(x, i) && x.message(i, 3) < x.node(x.message(i, 2), 2)) {
                return i;
            }
        }
        return -1;
    }

    /** What a NODE asks in its ROUND comes to this one, which answers. */
    static void ask(SharedShelf x, int node, int helper) {
        x.deliver(findAsk(x, node, helper, x.node(node, 2)));
    }

    /** The answer of this one comes to the NODE, in whose ROUND it is. */
    static int hear(SharedShelf x, int node, int helper) {
        return x.deliver(findAnswer(x, node, helper, x.node(node, 2)));
    }

    /** What a NODE asks in its ROUND comes to these alone, and their answers come to it. */
    static void phaseWith(SharedShelf x, int node, int... helpers) {
        int round = x.node(node, 2);
        for (int helper : helpers) {
            ask(x, node, helper);
        }
        for (int helper : helpers) {
            x.deliver(findAnswer(x, node, helper, round));
        }
    }

    /** All answers but the last one that is needed come to a NODE in its PHASE. */
    static void toTheBrink(SharedShelf x, int node) {
        for (int k = 0; k < 100 && x.node(node, 4) < x.count(0) / 2; k++) {
            x.deliver(findOfRound(x, node));
        }
        for (int k = 0; k < 100 && !isAnswer(x, findOfRound(x, node)); k++) {
            x.deliver(findOfRound(x, node));
        }
    }

    /** Only the MESSAGES of this NODE's ROUND come, until it enters another PHASE. */
    static void throughPhase(SharedShelf x, int node) {
        int phase = x.node(node, 1);
        int round = x.node(node, 2);
        for (int k = 0; k < 100 && x.node(node, 1) == phase && x.node(node, 2) == round; k++) {
            int i = findOfRound(x, node);
            if (i < 0) {
                return;
            }
            x.deliver(i);
        }
    }

    static void throughPhases(SharedShelf x, int node, int times) {
        for (int k = 0; k < times; k++) {
            throughPhase(x, node);
        }
    }

    static void throughCollect(SharedShelf x, int node) {
        throughPhases(x, node, 2);
    }

    /** The OPERATION of this NODE goes on, no other one does, until it is DONE. */
    static void throughOperation(SharedShelf x, int node) {
        for (int k = 0; k < 100 && x.node(node, 1) != 0; k++) {
            throughPhase(x, node);
        }
    }

    /** An UPDATE of the counter from its beginning until it is DONE, while all others wait. */
    static int write(SharedShelf x, int node, int a) {
        int operation = x.update(node, 0, a, 0);
        throughOperation(x, node);
        return operation;
    }
}
