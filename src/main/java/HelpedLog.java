import java.util.Arrays;
import java.util.NoSuchElementException;

/** A plain object shared by processes that thread their announced calls on one log. */
public final class HelpedLog {
    public static final int GOES_ON = 0;
    public static final int DONE = 1;
    public static final int IDLE = 2;
    public static final int WAITS = 3;
    public static final int NONE = -1;

    private static final int LAST_KIND = 3;
    private static final int MOST_PROCESSES = 5;
    private static final int POOL_SIZE = 32;
    private static final int LAST_OPERATION = 2;
    private static final int LAST_WHAT = 3;
    private static final int MOST_STEPS = 1000;

    private static final int ANNOUNCE = 0;
    private static final int LOOK = 1;
    private static final int ASK = 2;
    private static final int CHOOSE = 3;
    private static final int PROPOSE = 4;
    private static final int NUMBER = 5;
    private static final int MOVE = 6;
    private static final int FINISH = 7;

    private final Caller[] callers;
    private final Node[] pool;
    /** The object as it is behind all nodes of the log, those that were cut off among them. */
    private final Plain logged;
    /** A spare object, so that a look ahead neither changes the logged one nor makes a new one. */
    private final Plain spare;
    private final Plain apart;

    public HelpedLog(int kind, int n) {
        int heldKind = Math.max(0, Math.min(LAST_KIND, kind));
        int heldN = Math.max(1, Math.min(MOST_PROCESSES, n));
        logged = newPlain(heldKind);
        spare = newPlain(heldKind);
        apart = newPlain(heldKind);
        pool = new Node[POOL_SIZE];
        for (int i = 0; i < POOL_SIZE; i++) {
            pool[i] = new Node();
        }
        Node first = pool[0];
        first.inUse = true;
        first.number = 1;
        callers = new Caller[heldN];
        for (int p = 0; p < heldN; p++) {
            callers[p] = new Caller(p, first);
        }
    }

    public void call(int p, int operation, int a, int b)
            throws IndexOutOfBoundsException, IllegalArgumentException, IllegalStateException {
        checkProcess(p);
        checkOperation(operation);
        Caller caller = callers[p];
        if (caller.stage != NONE) {
            throw new IllegalStateException("the process has a call under way");
        }
        caller.operation = operation;
        caller.a = a;
        caller.b = b;
        caller.stage = ANNOUNCE;
    }

    public int step(int p) throws IndexOutOfBoundsException {
        checkProcess(p);
        return advance(callers[p]);
    }

    public int run(int seed, int steps) throws IllegalArgumentException {
        if (steps < 1 || steps > MOST_STEPS) {
            throw new IllegalArgumentException("steps is not 1 .. 1000");
        }
        int x = seed;
        int finished = 0;
        for (int i = 0; i < steps; i++) {
            x = x * 1103515245 + 12345;
            if (advance(callers[(x >>> 16) % callers.length]) == DONE) {
                finished++;
            }
        }
        return finished;
    }

    public int done(int p) throws IndexOutOfBoundsException {
        checkProcess(p);
        return callers[p].doneCalls;
    }

    public int answer(int p) throws IndexOutOfBoundsException, IllegalStateException {
        checkProcess(p);
        if (callers[p].doneCalls == 0) {
            throw new IllegalStateException("no call of the process was done");
        }
        return callers[p].latestAnswer;
    }

    public int placeOf(int p) throws IndexOutOfBoundsException {
        checkProcess(p);
        return callers[p].latestPlace;
    }

    public int end() {
        int greatest = 1;
        for (Node node : pool) {
            if (node.isOnLog()) {
                greatest = Math.max(greatest, node.number);
            }
        }
        return greatest;
    }

    public int oldest() {
        int least = end();
        for (Node node : pool) {
            if (node.isOnLog()) {
                least = Math.min(least, node.number);
            }
        }
        return least;
    }

    public int node(int number, int what) throws NoSuchElementException, IllegalArgumentException {
        Node found = findOnLog(number);
        if (found == null) {
            throw new NoSuchElementException("no node in use has the number");
        }
        if (what < 0 || what > LAST_WHAT) {
            throw new IllegalArgumentException("what is not 0 .. 3");
        }
        return found.part(what);
    }

    public int stage(int p) throws IndexOutOfBoundsException {
        checkProcess(p);
        return callers[p].stage;
    }

    public int head(int p) throws IndexOutOfBoundsException {
        checkProcess(p);
        return callers[p].head.number;
    }

    public int used() {
        int count = 0;
        for (Node node : pool) {
            if (node.inUse) {
                count++;
            }
        }
        return count;
    }

    public int cut() {
        bringIdleHeadsTo(greatestHead());
        return releaseBelow(leastHeadNumber());
    }

    public int peek(int operation, int a, int b) throws IllegalArgumentException {
        checkOperation(operation);
        spare.copyFrom(logged);
        return spare.perform(operation, a, b);
    }

    public int plain(int operation, int a, int b) throws IllegalArgumentException {
        checkOperation(operation);
        return apart.perform(operation, a, b);
    }

    private static Plain newPlain(int kind) {
        switch (kind) {
            case 0:
                return new Queue();
            case 1:
                return new Stack();
            case 2:
                return new Table();
            default:
                return new Bank();
        }
    }

    private void checkProcess(int p) {
        if (p < 0 || p >= callers.length) {
            throw new IndexOutOfBoundsException("there is no such process");
        }
    }

    private static void checkOperation(int operation) {
        if (operation < 0 || operation > LAST_OPERATION) {
            throw new IllegalArgumentException("operation is not 0 .. 2");
        }
    }

    private int advance(Caller caller) {
        switch (caller.stage) {
            case ANNOUNCE:
                return announce(caller);
            case LOOK:
                look(caller);
                return GOES_ON;
            case ASK:
                caller.stage = caller.own.number > 0 ? FINISH : CHOOSE;
                return GOES_ON;
            case CHOOSE:
                choose(caller);
                return GOES_ON;
            case PROPOSE:
                propose(caller);
                return GOES_ON;
            case NUMBER:
                giveNumber(caller);
                return GOES_ON;
            case MOVE:
                move(caller);
                return GOES_ON;
            case FINISH:
                finish(caller);
                return DONE;
            default:
                return IDLE;
        }
    }

    private int announce(Caller caller) {
        Node free = findFree();
        if (free == null) {
            return WAITS;
        }
        free.take(caller);
        caller.own = free;
        caller.announced = free;
        caller.best = caller.head;
        caller.lookingAt = 0;
        caller.stage = LOOK;
        return GOES_ON;
    }

    private void look(Caller caller) {
        if (caller.lookingAt < callers.length) {
            Node seen = callers[caller.lookingAt].head;
            if (seen.number > caller.best.number) {
                caller.best = seen;
            }
        }
        caller.lookingAt++;
        if (caller.lookingAt >= callers.length) {
            caller.stage = ASK;
        }
    }

    private void choose(Caller caller) {
        int place = caller.best.number + 1;
        Node helped = callers[Math.floorMod(place, callers.length)].announced;
        caller.proposal = helped != null && helped.number == 0 ? helped : caller.own;
        caller.stage = PROPOSE;
    }

    private void propose(Caller caller) {
        if (caller.best.cell == null) {
            caller.best.cell = caller.proposal;
        }
        caller.proposal = caller.best.cell;
        caller.stage = NUMBER;
    }

    /**
     * Places are numbered for the first time in their order, since none proposes behind a node
     * without a number: so the logged object can go along the log here, once for each node.
     */
    private void giveNumber(Caller caller) {
        Node settled = caller.proposal;
        if (settled.number == 0) {
            settled.answer = logged.perform(settled.operation, settled.a, settled.b);
        }
        settled.number = caller.best.number + 1;
        caller.stage = MOVE;
    }

    private static void move(Caller caller) {
        caller.head = caller.proposal;
        caller.best = caller.proposal;
        caller.stage = ASK;
    }

    private static void finish(Caller caller) {
        caller.head = caller.own;
        caller.announced = null;
        caller.doneCalls++;
        caller.latestAnswer = caller.own.answer;
        caller.latestPlace = caller.own.number;
        caller.stage = NONE;
    }

    private Node findFree() {
        for (Node node : pool) {
            if (!node.inUse) {
                return node;
            }
        }
        return null;
    }

    private Node findOnLog(int number) {
        for (Node node : pool) {
            if (node.isOnLog() && node.number == number) {
                return node;
            }
        }
        return null;
    }

    private Node greatestHead() {
        Node greatest = callers[0].head;
        for (Caller caller : callers) {
            if (caller.head.number > greatest.number) {
                greatest = caller.head;
            }
        }
        return greatest;
    }

    private void bringIdleHeadsTo(Node head) {
        for (Caller caller : callers) {
            if (caller.stage == NONE) {
                caller.head = head;
            }
        }
    }

    private int leastHeadNumber() {
        int least = callers[0].head.number;
        for (Caller caller : callers) {
            least = Math.min(least, caller.head.number);
        }
        return least;
    }

    /** Announced nodes without a number stay: they are not on the log yet. */
    private int releaseBelow(int number) {
        int released = 0;
        for (Node node : pool) {
            if (node.isOnLog() && node.number < number) {
                node.inUse = false;
                released++;
            }
        }
        return released;
    }

    /** A place of the pool; as it is made, its call is that of the FIRST, which has none. */
    private static final class Node {
        boolean inUse;
        int process = NONE;
        int operation = NONE;
        int a = NONE;
        int b = NONE;
        int number;
        int answer;
        Node cell;

        boolean isOnLog() {
            return inUse && number > 0;
        }

        void take(Caller caller) {
            inUse = true;
            process = caller.process;
            operation = caller.operation;
            a = caller.a;
            b = caller.b;
            number = 0;
            cell = null;
        }

        int part(int what) {
            switch (what) {
                case 0:
                    return process;
                case 1:
                    return operation;
                case 2:
                    return a;
                default:
                    return b;
            }
        }
    }

    /** A process: its call under way, how far it is with it, and what its latest call gave. */
    private static final class Caller {
        final int process;
        int stage = NONE;
        int operation;
        int a;
        int b;
        int lookingAt;
        Node head;
        Node announced;
        Node own;
        Node best;
        Node proposal;
        int doneCalls;
        int latestAnswer;
        int latestPlace = NONE;

        /** The first node stands in where none is chosen yet, so that these are never null. */
        Caller(int process, Node first) {
            this.process = process;
            head = first;
            own = first;
            best = first;
            proposal = first;
        }
    }

    /** An object of a plain kind; all that it holds is in its cells and their count. */
    private abstract static class Plain {
        final int[] cells;
        int count;

        Plain(int size, int value) {
            cells = new int[size];
            Arrays.fill(cells, value);
        }

        abstract int perform(int operation, int a, int b);

        void copyFrom(Plain other) {
            System.arraycopy(other.cells, 0, cells, 0, Math.min(other.cells.length, cells.length));
            count = other.count;
        }
    }

    /** What QUEUE and STACK share: at most 8 ints, in the order in which they were put in. */
    private abstract static class Bag extends Plain {
        Bag() {
            super(8, 0);
        }

        abstract int takeOut();

        int perform(int operation, int a, int b) {
            switch (operation) {
                case 0:
                    return putIn(a);
                case 1:
                    return count > 0 ? takeOut() : -1;
                default:
                    return count;
            }
        }

        private int putIn(int value) {
            if (count >= cells.length) {
                return -1;
            }
            cells[count] = value;
            count++;
            return count;
        }
    }

    private static final class Queue extends Bag {
        int takeOut() {
            int taken = cells[0];
            for (int i = 1; i < count; i++) {
                cells[i - 1] = cells[i];
            }
            count--;
            return taken;
        }
    }

    private static final class Stack extends Bag {
        int takeOut() {
            count--;
            return cells[count];
        }
    }

    private static final class Table extends Plain {
        Table() {
            super(8, 0);
        }

        int perform(int operation, int a, int b) {
            int entry = a & 7;
            switch (operation) {
                case 0:
                    int before = cells[entry];
                    cells[entry] = b;
                    return before;
                case 1:
                    return cells[entry];
                default:
                    return sum();
            }
        }

        private int sum() {
            int total = 0;
            for (int value : cells) {
                total += value;
            }
            return total;
        }
    }

    private static final class Bank extends Plain {
        private static final int MOVED = 10;

        Bank() {
            super(4, 100);
        }

        int perform(int operation, int a, int b) {
            int account = a & 3;
            switch (operation) {
                case 0:
                    return transfer(account, b & 3);
                case 1:
                    return cells[account];
                default:
                    cells[account] += b;
                    return cells[account];
            }
        }

        private int transfer(int from, int to) {
            if (cells[from] < MOVED) {
                return 0;
            }
            cells[from] -= MOVED;
            cells[to] += MOVED;
            return 1;
        }
    }
}
