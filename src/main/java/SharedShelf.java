/**
 * Objects that many nodes share without a lock or a leader. The words of the document's "Terms"
 * (NODE, SEGMENT, LOG, VIEW, ROUND, ..) are the names that are used here.
 */
public final class SharedShelf {
    public static final int NONE = -1;

    private static final int LEAST_NODES = 3;
    private static final int MOST_NODES = 31;
    private static final int MOST_OPERATIONS = 511;
    private static final int MOST_MESSAGES = 2000;

    private static final int ADD_TO_COUNTER = 0;
    private static final int OFFER_GREATEST = 1;
    private static final int PUT_IN_SET = 2;
    private static final int RAISE_IN_MAP = 3;

    private static final int SUM_OF_COUNTER = 10;
    private static final int GREATEST_OF_ALL = 11;
    private static final int IS_IN_SET = 12;
    private static final int SIZE_OF_SET = 13;
    private static final int GREATEST_IN_MAP = 14;
    private static final int SIZE_OF_MAP = 15;

    private static final int COLLECT = 0;
    private static final int REPLY = 1;
    private static final int STORE = 2;
    private static final int ACK = 3;

    private static final int IDLE = 0;
    private static final int COLLECTING = 1;
    private static final int STORING = 2;
    private static final int WRITING = 3;

    private final Node[] nodes;
    private final Row row;
    // Numbered from 1 on, as the document does; place 0 stays empty.
    private final Operation[] operations;
    private int begun;
    private int ended;
    private int moment;
    private int came;
    private int borrowed;
    private int mostCollects;

    public SharedShelf(int nodes) {
        int size = nodes < LEAST_NODES || nodes > MOST_NODES ? LEAST_NODES : nodes;
        this.nodes = new Node[size];
        for (int k = 0; k < size; k++) {
            this.nodes[k] = new Node(k, size);
        }
        row = new Row(size);
        operations = new Operation[MOST_OPERATIONS + 1];
    }

    public int update(int node, int kind, int a, int b) throws IndexOutOfBoundsException, IllegalArgumentException {
        if (!isNode(node)) {
            throw new IndexOutOfBoundsException("there is no such node");
        }
        if (kind < ADD_TO_COUNTER || kind > RAISE_IN_MAP) {
            throw new IllegalArgumentException("the kind of an update is 0 .. 3");
        }
        return begin(node, kind, a, b);
    }

    public int query(int node, int kind, int a) throws IndexOutOfBoundsException, IllegalArgumentException {
        if (!isNode(node)) {
            throw new IndexOutOfBoundsException("there is no such node");
        }
        if (kind < SUM_OF_COUNTER || kind > SIZE_OF_MAP) {
            throw new IllegalArgumentException("the kind of a query is 10 .. 15");
        }
        return begin(node, kind, a, 0);
    }

    public int deliver(int i) throws IndexOutOfBoundsException {
        if (!row.holds(i)) {
            throw new IndexOutOfBoundsException("there is no such message");
        }
        return come(i);
    }

    public int calm(int n) throws IllegalArgumentException {
        if (n < 0 || n > MOST_MESSAGES) {
            throw new IllegalArgumentException("calm takes 0 .. 2,000 messages");
        }
        int times = 0;
        while (times < n && row.holds(0) && come(0) != NONE) {
            times++;
        }
        return times;
    }

    public boolean crash(int node) throws IndexOutOfBoundsException {
        if (!isNode(node)) {
            throw new IndexOutOfBoundsException("there is no such node");
        }
        boolean wasUp = nodes[node].up;
        if (wasUp) {
            nodes[node].up = false;
            moment++;
        }
        return wasUp;
    }

    public int told(int operation, int what) {
        Operation one = find(operation);
        return one == null ? NONE : one.tell(what);
    }

    public long answer(int operation) {
        Operation one = find(operation);
        return one == null || !one.isDone() ? 0 : fold(one);
    }

    public int view(int operation, int node) {
        Operation one = find(operation);
        return one == null || !one.hasView || !isNode(node) ? NONE : one.seen[node];
    }

    public int node(int node, int what) {
        return isNode(node) ? nodes[node].tell(what) : NONE;
    }

    public int kept(int node, int segment) {
        return isNode(node) && isNode(segment) ? nodes[node].lengths[segment] : NONE;
    }

    public int message(int i, int what) {
        return row.holds(i) ? row.tell(i, what) : NONE;
    }

    public int vector(int i, int k) {
        return row.holds(i) && isNode(k) ? row.numberOf(i, k) : NONE;
    }

    public int count(int what) {
        switch (what) {
            case 0: return nodes.length;
            case 1: return nodesUp();
            case 2: return row.length;
            case 3: return row.sent;
            case 4: return came;
            case 5: return begun;
            case 6: return ended;
            case 7: return moment;
            case 8: return borrowed;
            case 9: return mostCollects;
            default: return NONE;
        }
    }

    public int astray() {
        int found = 0;
        for (int i = 1; i <= begun; i++) {
            Operation first = find(i);
            if (first == null || !first.hasView) {
                continue;
            }
            if (seesWhatBeganLater(first)) {
                found++;
            }
            for (int j = i + 1; j <= begun; j++) {
                Operation second = find(j);
                if (second != null && second.hasView) {
                    found += strays(first, second);
                }
            }
        }
        return found;
    }

    private boolean isNode(int node) {
        return node >= 0 && node < nodes.length;
    }

    private Operation find(int operation) {
        return operation < 1 || operation > begun ? null : operations[operation];
    }

    private int nodesUp() {
        int up = 0;
        for (Node one : nodes) {
            if (one.up) {
                up++;
            }
        }
        return up;
    }

    private int begin(int node, int kind, int a, int b) {
        Node asker = nodes[node];
        if (!asker.up || asker.task != null || begun >= MOST_OPERATIONS || !row.hasRoom(nodes.length)) {
            return NONE;
        }
        moment++;
        begun++;
        Operation task = new Operation(begun, node, kind, a, b, moment, nodes.length);
        operations[begun] = task;
        asker.takeUp(task);
        beginCollect(asker);
        return begun;
    }

    /** The MESSAGE comes, if there is room for what it leads to: its kind, or NONE. */
    private int come(int i) {
        int slot = row.slotOf(i);
        int kind = row.kinds[slot];
        Node receiver = nodes[row.receivers[slot]];
        if (!row.hasRoom(leadsTo(receiver, slot) - 1)) {
            return NONE;
        }
        row.take(i);
        came++;
        moment++;
        if (!receiver.up) {
            return kind;
        }
        // The slot is free by now: what it holds is used up ahead of the first MESSAGE that is sent.
        if (kind == COLLECT) {
            row.send(REPLY, receiver.index, row.senders[slot], row.rounds[slot], receiver.lengths);
        } else if (kind == STORE) {
            row.raise(receiver.lengths, slot);
            row.send(ACK, receiver.index, row.senders[slot], row.rounds[slot], null);
        } else if (receiver.waitsFor(kind, row.rounds[slot])) {
            hear(receiver, slot);
        }
        return kind;
    }

    /** How many MESSAGES are sent as this one comes; it is asked ahead of all changes, and makes none. */
    private int leadsTo(Node receiver, int slot) {
        if (!receiver.up) {
            return 0;
        }
        int kind = row.kinds[slot];
        if (kind == COLLECT || kind == STORE) {
            return 1;
        }
        if (!receiver.waitsFor(kind, row.rounds[slot]) || !receiver.isMajority(receiver.heard + 1)) {
            return 0;
        }
        return endsOperation(receiver) ? 0 : nodes.length;
    }

    /** Whether the OPERATION is DONE as the PHASE of its NODE ends. */
    private boolean endsOperation(Node asker) {
        Operation task = asker.task;
        if (task == null || asker.phase == COLLECTING) {
            return false;
        }
        if (asker.phase == WRITING) {
            return true;
        }
        return !task.isUpdate() && task.collects > 0 && (asker.collectsAreAlike() || lender(asker) != null);
    }

    /** A REPLY or an ACK that the NODE waits for. */
    private void hear(Node asker, int slot) {
        asker.heard++;
        if (asker.phase == COLLECTING) {
            row.raise(asker.current, slot);
        }
        Operation task = asker.task;
        if (task == null || !asker.isMajority(asker.heard)) {
            return;
        }
        if (asker.phase == COLLECTING) {
            sendToAll(asker, STORE, STORING, asker.current);
        } else if (asker.phase == STORING) {
            endCollect(asker, task);
        } else {
            endOperation(asker, task);
        }
    }

    private void beginCollect(Node asker) {
        asker.clearCurrent();
        sendToAll(asker, COLLECT, COLLECTING, null);
    }

    private void endCollect(Node asker, Operation task) {
        boolean isFirst = task.collects == 0;
        task.collects++;
        mostCollects = Math.max(mostCollects, task.collects);
        if (!isFirst && asker.collectsAreAlike()) {
            useView(asker, task, asker.current);
            return;
        }
        Operation lender = isFirst ? null : lender(asker);
        if (lender != null) {
            task.lender = lender.node;
            borrowed++;
            useView(asker, task, lender.seen);
            return;
        }
        asker.rememberCollect(isFirst);
        beginCollect(asker);
    }

    /** The UPDATE whose VIEW may be BORROWED at the end of this collect; null without one. */
    private Operation lender(Node asker) {
        int mover = asker.leastThatMovedTwice();
        if (mover == NONE) {
            return null;
        }
        for (int i = 1; i <= begun; i++) {
            Operation one = operations[i];
            if (one != null && one.node == mover && one.place > 0 && one.place == asker.current[mover]) {
                return one;
            }
        }
        return null;
    }

    private void useView(Node asker, Operation task, int[] numbers) {
        task.see(numbers);
        if (task.isUpdate()) {
            task.place = asker.lengthenLog();
            sendToAll(asker, STORE, WRITING, asker.own);
        } else {
            endOperation(asker, task);
        }
    }

    private void endOperation(Node asker, Operation task) {
        task.done = moment;
        ended++;
        asker.rest();
    }

    private void sendToAll(Node asker, int kind, int phase, int[] numbers) {
        asker.enter(phase);
        for (int k = 0; k < nodes.length; k++) {
            row.send(kind, asker.index, k, asker.round, numbers);
        }
    }

    /** LOGS only grow, so what stands in a VIEW is the same whenever it is folded. */
    private long fold(Operation query) {
        switch (query.kind) {
            case SUM_OF_COUNTER: return sum(query);
            case GREATEST_OF_ALL: return greatest(query);
            case IS_IN_SET: return contains(query) ? 1 : 0;
            case SIZE_OF_SET: return different(query, PUT_IN_SET);
            case GREATEST_IN_MAP: return greatestOfKey(query);
            case SIZE_OF_MAP: return different(query, RAISE_IN_MAP);
            default: return 0;
        }
    }

    private long sum(Operation query) {
        long total = 0;
        for (int i = 1; i <= begun; i++) {
            Operation one = operations[i];
            if (query.sees(one, ADD_TO_COUNTER)) {
                total += one.a;
            }
        }
        return total;
    }

    private long greatest(Operation query) {
        long most = Long.MIN_VALUE;
        for (int i = 1; i <= begun; i++) {
            Operation one = operations[i];
            if (query.sees(one, OFFER_GREATEST)) {
                most = Math.max(most, one.a);
            }
        }
        return most;
    }

    private boolean contains(Operation query) {
        for (int i = 1; i <= begun; i++) {
            Operation one = operations[i];
            if (query.sees(one, PUT_IN_SET) && one.a == query.a) {
                return true;
            }
        }
        return false;
    }

    private long greatestOfKey(Operation query) {
        long most = Long.MIN_VALUE;
        for (int i = 1; i <= begun; i++) {
            Operation one = operations[i];
            if (query.sees(one, RAISE_IN_MAP) && one.a == query.a) {
                most = Math.max(most, one.b);
            }
        }
        return most;
    }

    /** How many different a the UPDATES of one kind have. */
    private int different(Operation query, int kind) {
        int found = 0;
        for (int i = 1; i <= begun; i++) {
            Operation one = operations[i];
            if (query.sees(one, kind) && !isRepeated(query, one)) {
                found++;
            }
        }
        return found;
    }

    private boolean isRepeated(Operation query, Operation update) {
        for (int i = 1; i < update.number; i++) {
            Operation one = operations[i];
            if (query.sees(one, update.kind) && one.a == update.a) {
                return true;
            }
        }
        return false;
    }

    /**
     * In how many of the two ways that are told of pairs these two are astray. OPERATIONS are
     * numbered as they begin, so only the one of the lesser number can be DONE ahead of the other.
     */
    private int strays(Operation first, Operation second) {
        boolean isAtMost = first.seesAtMost(second);
        int ways = 0;
        if (!isAtMost && !second.seesAtMost(first)) {
            ways++;
        }
        boolean isAhead = first.isDone() && first.done < second.began;
        boolean isMissed = first.isUpdate() && !second.sees(first, first.kind);
        if (isAhead && (!isAtMost || isMissed)) {
            ways++;
        }
        return ways;
    }

    private boolean seesWhatBeganLater(Operation viewer) {
        if (!viewer.isDone()) {
            return false;
        }
        for (int i = 1; i <= begun; i++) {
            Operation one = operations[i];
            if (one != null && one.began > viewer.done && viewer.sees(one, one.kind)) {
                return true;
            }
        }
        return false;
    }

    /** An OPERATION, and its VIEW as soon as it has one. */
    private static final class Operation {
        final int number;
        final int node;
        final int kind;
        final int a;
        final int b;
        final int began;
        final int[] seen;
        boolean hasView;
        int done = NONE;
        int collects;
        int lender = NONE;
        // Of an UPDATE that was WRITTEN: which one of its NODE's LOG it is, from 1 on.
        int place;

        Operation(int number, int node, int kind, int a, int b, int began, int nodes) {
            this.number = number;
            this.node = node;
            this.kind = kind;
            this.a = a;
            this.b = b;
            this.began = began;
            seen = new int[nodes];
        }

        boolean isUpdate() {
            return kind <= RAISE_IN_MAP;
        }

        boolean isDone() {
            return done != NONE;
        }

        void see(int[] numbers) {
            for (int k = 0; k < seen.length && k < numbers.length; k++) {
                seen[k] = numbers[k];
            }
            hasView = true;
        }

        /** Whether the other is an UPDATE of this kind, and this one's VIEW has it. */
        boolean sees(Operation other, int ofKind) {
            return other != null && other.kind == ofKind && other.place > 0 && other.place <= seen[other.node];
        }

        boolean seesAtMost(Operation other) {
            for (int k = 0; k < seen.length; k++) {
                if (seen[k] > other.seen[k]) {
                    return false;
                }
            }
            return true;
        }

        int tell(int what) {
            switch (what) {
                case 0: return node;
                case 1: return kind;
                case 2: return a;
                case 3: return b;
                case 4: return isDone() ? 1 : 0;
                case 5: return began;
                case 6: return done;
                case 7: return collects;
                case 8: return lender;
                case 9: return place;
                default: return NONE;
            }
        }
    }

    /** A NODE: what it keeps of all SEGMENTS, and how far its OPERATION is. */
    private static final class Node {
        final int index;
        final int[] lengths;
        final int[] current;
        final int[] previous;
        final int[] moved;
        // The VECTOR of its own writing: its LOG's length for itself, 0 for the others.
        final int[] own;
        boolean up = true;
        int phase = IDLE;
        int round;
        int heard;
        Operation task;

        Node(int index, int nodes) {
            this.index = index;
            lengths = new int[nodes];
            current = new int[nodes];
            previous = new int[nodes];
            moved = new int[nodes];
            own = new int[nodes];
        }

        void takeUp(Operation begun) {
            task = begun;
            for (int k = 0; k < moved.length; k++) {
                moved[k] = 0;
            }
        }

        void enter(int next) {
            phase = next;
            round++;
            heard = 0;
        }

        void rest() {
            phase = IDLE;
            heard = 0;
            task = null;
        }

        void clearCurrent() {
            for (int k = 0; k < current.length; k++) {
                current[k] = 0;
            }
        }

        int lengthenLog() {
            own[index]++;
            return own[index];
        }

        boolean isMajority(int some) {
            return 2 * some > lengths.length;
        }

        boolean waitsFor(int kind, int ofRound) {
            if (ofRound != round) {
                return false;
            }
            return kind == REPLY ? phase == COLLECTING : kind == ACK && (phase == STORING || phase == WRITING);
        }

        boolean collectsAreAlike() {
            for (int k = 0; k < current.length; k++) {
                if (current[k] != previous[k]) {
                    return false;
                }
            }
            return true;
        }

        /** Counts the move that the collect now ending shows, though it is not yet noted. */
        int leastThatMovedTwice() {
            for (int k = 0; k < current.length; k++) {
                if (moved[k] > 0 && current[k] != previous[k]) {
                    return k;
                }
            }
            return NONE;
        }

        void rememberCollect(boolean isFirst) {
            for (int k = 0; k < current.length; k++) {
                if (!isFirst && current[k] != previous[k]) {
                    moved[k]++;
                }
                previous[k] = current[k];
            }
        }

        int tell(int what) {
            switch (what) {
                case 0: return up ? 1 : 0;
                case 1: return phase;
                case 2: return round;
                case 3: return task == null ? 0 : task.number;
                case 4: return heard;
                case 5: return own[index];
                default: return NONE;
            }
        }
    }

    /**
     * The MESSAGES that are on their way. The slots that hold them stand in a ring, so that the
     * first one goes without moving the others; behind the last MESSAGE stand the free slots.
     */
    private static final class Row {
        final int width;
        final int[] slots = new int[MOST_MESSAGES];
        final int[] kinds = new int[MOST_MESSAGES];
        final int[] senders = new int[MOST_MESSAGES];
        final int[] receivers = new int[MOST_MESSAGES];
        final int[] rounds = new int[MOST_MESSAGES];
        final int[] numbers;
        int head;
        int length;
        int sent;

        Row(int width) {
            this.width = width;
            numbers = new int[MOST_MESSAGES * width];
            for (int k = 0; k < MOST_MESSAGES; k++) {
                slots[k] = k;
            }
        }

        boolean holds(int i) {
            return i >= 0 && i < length;
        }

        boolean hasRoom(int more) {
            return length + more <= MOST_MESSAGES;
        }

        int slotOf(int i) {
            return slots[(head + i) % MOST_MESSAGES];
        }

        void send(int kind, int sender, int receiver, int round, int[] vector) {
            int slot = slots[(head + length) % MOST_MESSAGES];
            kinds[slot] = kind;
            senders[slot] = sender;
            receivers[slot] = receiver;
            rounds[slot] = round;
            if (vector != null) {
                System.arraycopy(vector, 0, numbers, slot * width, width);
            }
            length++;
            sent++;
        }

        void take(int i) {
            int slot = slotOf(i);
            for (int k = i; k > 0; k--) {
                slots[(head + k) % MOST_MESSAGES] = slotOf(k - 1);
            }
            slots[head] = slot;
            head = (head + 1) % MOST_MESSAGES;
            length--;
        }

        /** Makes each of these lengths the VECTOR's number, if that is greater. */
        void raise(int[] lengths, int slot) {
            for (int k = 0; k < lengths.length; k++) {
                lengths[k] = Math.max(lengths[k], numbers[slot * width + k]);
            }
        }

        int numberOf(int i, int k) {
            int slot = slotOf(i);
            return kinds[slot] == REPLY || kinds[slot] == STORE ? numbers[slot * width + k] : NONE;
        }

        int tell(int i, int what) {
            int slot = slotOf(i);
            switch (what) {
                case 0: return kinds[slot];
                case 1: return senders[slot];
                case 2: return receivers[slot];
                case 3: return rounds[slot];
                default: return NONE;
            }
        }
    }
}
