import java.util.Random;

/**
 * Long runs of calls by chance (the same ones each time), each call set against the model.
 * They ask for more than 512 calls of an object: the document leaves those answers free, but
 * the program does not count its calls, so what holds for it must hold there too.
 */
public final class RandomRunsTest {
    private static final Checks CHECKS = new Checks();
    private static int borrowed;
    private static int refused;
    private static int longest;

    public static void main(String[] args) {
        for (int seed = 0; seed < 240; seed++) {
            run(seed, 3 + seed % 5, 450, 4);
        }
        for (int seed = 300; seed < 306; seed++) {
            run(seed, 31, 400, 60);
        }
        for (int seed = 400; seed < 402; seed++) {
            crowd(seed, 31, 9000);
        }
        for (int seed = 500; seed < 505; seed++) {
            crowd(seed, seed - 497, 14000);
        }
        CHECKS.due("runs had many VIEWS that were BORROWED", borrowed > 100, true);
        CHECKS.due("runs had MESSAGES without room", refused > 100, true);
        CHECKS.due("runs had OPERATIONS of four collects and more", longest >= 4, true);
        System.out.println(borrowed + " borrowed, " + refused + " without room, " + longest + " collects at most");
        CHECKS.end();
    }

    private static void run(int seed, int nodes, int calls, int mostCalm) {
        Random random = new Random(seed);
        SharedShelf x = new SharedShelf(nodes);
        Model m = new Model(nodes);
        for (int c = 0; c < calls; c++) {
            wrongCall(c, x, nodes);
            act(random, x, m, nodes, mostCalm, "seed " + seed + ", call " + c + ": ");
            if (nodes < 10 || c % 20 == 0) {
                compare(x, m, "seed " + seed + ", behind call " + c + ": ");
            }
        }
        finish(x, m, "seed " + seed + ", at its end: ");
    }

    /** The model hears nothing of it, as what throws changes nothing. */
    private static void wrongCall(int c, SharedShelf x, int nodes) {
        switch (c % 8) {
            case 0: CHECKS.dueThrow("update", IndexOutOfBoundsException.class, () -> x.update(nodes, 0, c, c)); break;
            case 1: CHECKS.dueThrow("update", IllegalArgumentException.class, () -> x.update(c % nodes, 4, c, c)); break;
            case 2: CHECKS.dueThrow("query", IndexOutOfBoundsException.class, () -> x.query(-1, 10, c)); break;
            case 3: CHECKS.dueThrow("query", IllegalArgumentException.class, () -> x.query(c % nodes, 9, c)); break;
            case 4: CHECKS.dueThrow("deliver", IndexOutOfBoundsException.class, () -> x.deliver(x.count(2))); break;
            case 5: CHECKS.dueThrow("calm", IllegalArgumentException.class, () -> x.calm(2001)); break;
            case 6: CHECKS.dueThrow("crash", IndexOutOfBoundsException.class, () -> x.crash(nodes) ? 1 : 0); break;
            default: CHECKS.dueThrow("calm", IllegalArgumentException.class, () -> x.calm(-1));
        }
    }

    private static void finish(SharedShelf x, Model m, String where) {
        for (int k = 0; k < 100 && !m.letters.isEmpty(); k++) {
            CHECKS.due(where + "calm(2000)", x.calm(2000), m.calm(2000));
        }
        compare(x, m, where);
        CHECKS.due(where + "astray()", x.astray(), 0);
        borrowed += x.count(8);
        longest = Math.max(longest, x.count(9));
    }

    private static void act(Random random, SharedShelf x, Model m, int nodes, int mostCalm, String where) {
        int node = random.nextInt(nodes);
        int a = random.nextInt(5) - 2;
        int b = random.nextInt(7) - 3;
        int dice = random.nextInt(100);
        if (dice < 14) {
            int kind = random.nextInt(4);
            CHECKS.due(where + "update", x.update(node, kind, a, b), m.begin(node, kind, a, b));
        } else if (dice < 22) {
            int kind = 10 + random.nextInt(6);
            CHECKS.due(where + "query", x.query(node, kind, a), m.begin(node, kind, a, 0));
        } else if (dice == 22 && random.nextInt(12) == 0) {
            CHECKS.due(where + "crash", x.crash(node), m.crash(node));
        } else if (dice < 40) {
            int n = random.nextInt(mostCalm + 1);
            CHECKS.due(where + "calm", x.calm(n), m.calm(n));
        } else {
            for (int k = 0; k < 3 && !m.letters.isEmpty(); k++) {
                int i = choose(random, m);
                CHECKS.due(where + "deliver", x.deliver(i), m.deliver(i));
            }
        }
    }

    /** NODE 0 is slow to hear answers, so that others write while it collects. */
    private static int choose(Random random, Model m) {
        int i = random.nextInt(m.letters.size());
        for (int k = 0; k < 4 && m.letters.get(i).kind % 2 == 1 && m.letters.get(i).to == 0; k++) {
            i = random.nextInt(m.letters.size());
        }
        return i;
    }

    /** NODES whose late MESSAGES are left on their way, until there is no room any more. */
    private static void crowd(int seed, int nodes, int calls) {
        Random random = new Random(seed);
        SharedShelf x = new SharedShelf(nodes);
        Model m = new Model(nodes);
        String where = "crowd " + seed + ": ";
        for (int c = 0; c < calls; c++) {
            int node = random.nextInt(nodes);
            int kind = random.nextBoolean() ? random.nextInt(4) : 10 + random.nextInt(6);
            int asker = c % (nodes + 9);
            if (asker < nodes) {
                int got = kind < 10 ? x.update(asker, kind, c, 1) : x.query(asker, kind, c);
                CHECKS.due(where + "begins", got, m.begin(asker, kind, c, kind < 10 ? 1 : 0));
            }
            int i = Steps.findOfRound(x, node);
            if (i < 0) {
                continue;
            }
            int got = x.deliver(i);
            CHECKS.due(where + "deliver", got, m.deliver(i));
            refused += got == -1 ? 1 : 0;
            if (got == -1) {
                int late = random.nextInt(m.letters.size());
                CHECKS.due(where + "deliver late", x.deliver(late), m.deliver(late));
            }
            if (c % 500 == 0) {
                compare(x, m, where + c + ": ");
            }
        }
        finish(x, m, where);
    }

    private static void compare(SharedShelf x, Model m, String where) {
        for (int what = -1; what <= 10; what++) {
            CHECKS.due(where + "count(" + what + ")", x.count(what), m.count(what));
        }
        compareNodes(x, m, where);
        compareMessages(x, m, where);
        compareOperations(x, m, where);
    }

    private static void compareNodes(SharedShelf x, Model m, String where) {
        for (int k = -1; k <= m.n; k++) {
            for (int what = -1; what <= 6; what++) {
                CHECKS.due(where + "node(" + k + ", " + what + ")", x.node(k, what), m.node(k, what));
            }
            for (int s = -1; s <= m.n; s++) {
                boolean exists = k >= 0 && k < m.n && s >= 0 && s < m.n;
                CHECKS.due(where + "kept(" + k + ", " + s + ")", x.kept(k, s), exists ? m.sites.get(k).keeps[s] : -1);
            }
        }
    }

    private static void compareMessages(SharedShelf x, Model m, String where) {
        for (int i = 0; i < m.letters.size(); i++) {
            Model.Letter l = m.letters.get(i);
            int[] all = {-1, l.kind, l.from, l.to, l.round, -1};
            for (int what = -1; what <= 4; what++) {
                CHECKS.due(where + "message(" + i + ", " + what + ")", x.message(i, what), all[what + 1]);
            }
            for (int k = -1; k <= m.n; k++) {
                boolean has = l.vector != null && k >= 0 && k < m.n;
                CHECKS.due(where + "vector(" + i + ", " + k + ")", x.vector(i, k), has ? l.vector[k] : -1);
            }
        }
        CHECKS.due(where + "message behind the last", x.message(m.letters.size(), 0), -1);
        CHECKS.due(where + "vector behind the last", x.vector(m.letters.size(), 0), -1);
    }

    private static void compareOperations(SharedShelf x, Model m, String where) {
        for (int o = 0; o <= m.deeds.size() + 1; o++) {
            for (int what = -1; what <= 10; what++) {
                CHECKS.due(where + "told(" + o + ", " + what + ")", x.told(o, what), m.told(o, what));
            }
            boolean exists = o >= 1 && o <= m.deeds.size();
            CHECKS.due(where + "answer(" + o + ")", x.answer(o), exists ? m.answer(m.deeds.get(o - 1)) : 0);
            int[] view = exists ? m.deeds.get(o - 1).view : null;
            for (int k = -1; k <= m.n; k++) {
                boolean has = view != null && k >= 0 && k < m.n;
                CHECKS.due(where + "view(" + o + ", " + k + ")", x.view(o, k), has ? view[k] : -1);
            }
        }
    }
}
