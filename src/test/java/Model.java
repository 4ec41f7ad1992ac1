import java.util.ArrayList;
import java.util.Arrays;
import java.util.HashMap;
import java.util.HashSet;
import java.util.List;
import java.util.Map;
import java.util.Set;

/**
 * The document told a second time, with the Java library and without thrift: all collects of an
 * OPERATION are kept, and moves, VIEWS and answers worked out anew from them. RandomRunsTest sets
 * it against the program.
 */
final class Model {
    static final class Letter {
        int kind, from, to, round;
        int[] vector;
    }

    static final class Deed {
        int number, node, kind, a, b, began, done = -1, lender = -1, place;
        int[] view;
        List<int[]> collects = new ArrayList<>();
    }

    static final class Site {
        boolean up = true;
        int phase, round, deed;
        int[] keeps;
        List<int[]> replies = new ArrayList<>();
        Set<Integer> answered = new HashSet<>();
        List<Integer> log = new ArrayList<>();
    }

    int n;
    List<Site> sites = new ArrayList<>();
    List<Deed> deeds = new ArrayList<>();
    List<Letter> letters = new ArrayList<>();
    int sent, came, moment;

    Model(int nodes) {
        n = nodes >= 3 && nodes <= 31 ? nodes : 3;
        for (int k = 0; k < n; k++) {
            Site s = new Site();
            s.keeps = new int[n];
            sites.add(s);
        }
    }

    int begin(int node, int kind, int a, int b) {
        Site s = sites.get(node);
        if (!s.up || s.deed != 0 || deeds.size() == 511 || letters.size() + n > 2000) {
            return -1;
        }
        moment++;
        Deed d = new Deed();
        d.number = deeds.size() + 1;
        d.node = node;
        d.kind = kind;
        d.a = a;
        d.b = b;
        d.began = moment;
        deeds.add(d);
        s.deed = d.number;
        all(node, 0, 1, null);
        return d.number;
    }

    boolean crash(int node) {
        boolean was = sites.get(node).up;
        if (was) {
            moment++;
        }
        sites.get(node).up = false;
        return was;
    }

    int calm(int most) {
        for (int k = 0; k < most; k++) {
            if (letters.isEmpty() || deliver(0) == -1) {
                return k;
            }
        }
        return most;
    }

    int deliver(int i) {
        int after = letters.size() - 1 + consequences(letters.get(i));
        if (after > 2000) {
            return -1;
        }
        Letter l = letters.remove(i);
        came++;
        moment++;
        receive(l);
        if (letters.size() != after) {
            throw new IllegalStateException("the model foresaw another number of letters");
        }
        return l.kind;
    }

    private boolean counts(Letter l) {
        Site s = sites.get(l.to);
        return s.up && l.round == s.round && (l.kind == 1 ? s.phase == 1 : s.phase == 2 || s.phase == 3);
    }

    private int consequences(Letter l) {
        Site s = sites.get(l.to);
        if (!s.up) {
            return 0;
        }
        if (l.kind == 0 || l.kind == 2) {
            return 1;
        }
        if (!counts(l) || s.answered.size() + 1 <= n / 2) {
            return 0;
        }
        if (s.phase == 1) {
            return n;
        }
        if (s.phase == 3) {
            return 0;
        }
        Deed d = deeds.get(s.deed - 1);
        return d.kind >= 10 && viewOf(d) != null ? 0 : n;
    }

    private void receive(Letter l) {
        Site s = sites.get(l.to);
        if (!s.up) {
            return;
        }
        if (l.kind == 0) {
            send(1, l.to, l.from, l.round, s.keeps);
        } else if (l.kind == 2) {
            s.keeps = most(List.of(s.keeps, l.vector));
            send(3, l.to, l.from, l.round, null);
        } else if (counts(l)) {
            s.answered.add(l.from);
            if (l.kind == 1) {
                s.replies.add(l.vector);
            }
            if (s.answered.size() > n / 2) {
                majority(l.to, deeds.get(s.deed - 1));
            }
        }
    }

    private void majority(int node, Deed d) {
        Site s = sites.get(node);
        if (s.phase == 1) {
            int[] current = most(s.replies);
            d.collects.add(current);
            all(node, 2, 2, current);
        } else if (s.phase == 3) {
            done(node, d);
        } else {
            Object[] found = viewOf(d);
            if (found == null) {
                all(node, 0, 1, null);
                return;
            }
            d.view = ((int[]) found[0]).clone();
            d.lender = (Integer) found[1];
            if (d.kind >= 10) {
                done(node, d);
            } else {
                s.log.add(d.number);
                d.place = s.log.size();
                int[] vector = new int[n];
                vector[node] = s.log.size();
                all(node, 2, 3, vector);
            }
        }
    }

    /** The view and whom it is borrowed from, worked out anew from all collects that d made. */
    private Object[] viewOf(Deed d) {
        int last = d.collects.size() - 1;
        if (last < 1) {
            return null;
        }
        int[] current = d.collects.get(last);
        if (Arrays.equals(current, d.collects.get(last - 1))) {
            return new Object[] {current, -1};
        }
        for (int k = 0; k < n; k++) {
            int moved = 0;
            for (int c = 1; c <= last; c++) {
                if (d.collects.get(c)[k] != d.collects.get(c - 1)[k]) {
                    moved++;
                }
            }
            if (moved == 2) {
                int update = sites.get(k).log.get(current[k] - 1);
                return new Object[] {deeds.get(update - 1).view, k};
            }
        }
        return null;
    }

    private void done(int node, Deed d) {
        d.done = moment;
        Site s = sites.get(node);
        s.phase = 0;
        s.deed = 0;
        s.answered.clear();
    }

    private void all(int node, int kind, int phase, int[] vector) {
        Site s = sites.get(node);
        s.round++;
        s.phase = phase;
        s.answered.clear();
        s.replies.clear();
        for (int k = 0; k < n; k++) {
            send(kind, node, k, s.round, vector);
        }
    }

    private void send(int kind, int from, int to, int round, int[] vector) {
        Letter l = new Letter();
        l.kind = kind;
        l.from = from;
        l.to = to;
        l.round = round;
        l.vector = vector == null ? null : vector.clone();
        letters.add(l);
        sent++;
    }

    private int[] most(List<int[]> vectors) {
        int[] greatest = new int[n];
        for (int[] v : vectors) {
            for (int k = 0; k < n; k++) {
                greatest[k] = Math.max(greatest[k], v[k]);
            }
        }
        return greatest;
    }

    /** Collects that are through: the one that still waits for its ACKs is not. */
    int collects(Deed d) {
        Site s = sites.get(d.node);
        boolean storing = s.deed == d.number && s.phase == 2;
        return d.collects.size() - (storing ? 1 : 0);
    }

    private List<Deed> inView(Deed d) {
        List<Deed> found = new ArrayList<>();
        for (int k = 0; k < n; k++) {
            for (int p = 0; p < d.view[k]; p++) {
                found.add(deeds.get(sites.get(k).log.get(p) - 1));
            }
        }
        return found;
    }

    long answer(Deed d) {
        if (d.done == -1 || d.kind < 10) {
            return 0;
        }
        long sum = 0;
        long greatest = Long.MIN_VALUE;
        Set<Integer> set = new HashSet<>();
        Map<Integer, Integer> map = new HashMap<>();
        for (Deed u : inView(d)) {
            switch (u.kind) {
                case 0: sum += u.a; break;
                case 1: greatest = Math.max(greatest, u.a); break;
                case 2: set.add(u.a); break;
                default: map.merge(u.a, u.b, Math::max);
            }
        }
        switch (d.kind) {
            case 10: return sum;
            case 11: return greatest;
            case 12: return set.contains(d.a) ? 1 : 0;
            case 13: return set.size();
            case 14: return map.containsKey(d.a) ? map.get(d.a) : Long.MIN_VALUE;
            default: return map.size();
        }
    }

    int count(int what) {
        int up = 0, done = 0, borrowed = 0, collects = 0;
        for (Site s : sites) {
            up += s.up ? 1 : 0;
        }
        for (Deed d : deeds) {
            done += d.done != -1 ? 1 : 0;
            borrowed += d.lender != -1 ? 1 : 0;
            collects = Math.max(collects, collects(d));
        }
        int[] all = {n, up, letters.size(), sent, came, deeds.size(), done, moment, borrowed, collects};
        return what >= 0 && what < all.length ? all[what] : -1;
    }

    int told(int number, int what) {
        if (number < 1 || number > deeds.size()) {
            return -1;
        }
        Deed d = deeds.get(number - 1);
        int[] all = {d.node, d.kind, d.a, d.b, d.done == -1 ? 0 : 1, d.began, d.done, collects(d), d.lender, d.place};
        return what >= 0 && what < all.length ? all[what] : -1;
    }

    int node(int node, int what) {
        if (node < 0 || node >= n) {
            return -1;
        }
        Site s = sites.get(node);
        int[] all = {s.up ? 1 : 0, s.phase, s.round, s.deed, s.answered.size(), s.log.size()};
        return what >= 0 && what < all.length ? all[what] : -1;
    }
}
