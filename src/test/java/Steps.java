/** Brings MESSAGES on their way in an order that a test needs, by the public face alone. */
final class Steps {
    private Steps() { }

    /** The first MESSAGE that has these (-1: any), or -1. */
    static int find(SharedShelf x, int kind, int sender, int receiver) {
        for (int i = 0; i < x.count(2); i++) {
            if ((kind < 0 || x.message(i, 0) == kind)
                    && (sender < 0 || x.message(i, 1) == sender)
                    && (receiver < 0 || x.message(i, 2) == receiver)) {
                return i;
            }
        }
        return -1;
    }

    /** The first MESSAGE of the ROUND that a NODE is in, asked by it or answered to it; -1 without. */
    static int findOfRound(SharedShelf x, int node) {
        for (int i = 0; i < x.count(2); i++) {
            boolean asks = x.message(i, 0) == 0 || x.message(i, 0) == 2;
            int asker = asks ? x.message(i, 1) : x.message(i, 2);
            if (asker == node && x.message(i, 3) == x.node(node, 2)) {
                return i;
            }
        }
        return -1;
    }

    /** Only the MESSAGES of this NODE's ROUND come, until it enters another PHASE. */
    static void throughPhase(SharedShelf x, int node) {
        int phase = x.node(node, 1);
        int round = x.node(node, 2);
        for (int k = 0; k < 100 && x.node(node, 1) == phase && x.node(node, 2) == round; k++) {
            int i = findOfRound(x, node);
            if (i < 0) {
                return;
            }
            x.deliver(i);
        }
    }

    static void throughCollect(SharedShelf x, int node) {
        throughPhase(x, node);
        throughPhase(x, node);
    }

    /** The OPERATION of this NODE goes on, no other one does, until it is DONE. */
    static void throughOperation(SharedShelf x, int node) {
        for (int k = 0; k < 100 && x.node(node, 1) != 0; k++) {
            throughPhase(x, node);
        }
    }
}
