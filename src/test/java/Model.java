import java.util.ArrayDeque;
import java.util.ArrayList;
import java.util.Arrays;
import java.util.Deque;
import java.util.LinkedHashSet;
import java.util.List;
import java.util.NoSuchElementException;
import java.util.Set;
import java.util.TreeMap;

/**
 * A second form of the document, word by word and with no care for room: a node is never used again
 * (a new one stands for it), and each answer is found by doing the whole log from its beginning.
 */
final class Model {
    final int n;
    private final int kind;
    private final List<Process> processes = new ArrayList<>();
    private final Set<Node> inUse = new LinkedHashSet<>();
    private final List<int[]> plainCalls = new ArrayList<>();
    /** Every node that ever had a number, by its number. */
    private final TreeMap<Integer, Node> log = new TreeMap<>();

    Model(int kind, int n) {
        this.kind = kind < 0 ? 0 : kind > 3 ? 3 : kind;
        this.n = n < 1 ? 1 : n > 5 ? 5 : n;
        Node first = new Node();
        first.call = new int[] {-1, -1, -1, -1};
        first.number = 1;
        log.put(1, first);
        inUse.add(first);
        for (int p = 0; p < this.n; p++) {
            Process process = new Process();
            process.head = first;
            processes.add(process);
        }
    }

    void call(int p, int operation, int a, int b) {
        Process process = process(p);
        checkOperation(operation);
        if (process.stage != Stage.WITHOUT) {
            throw new IllegalStateException();
        }
        process.call = new int[] {p, operation, a, b};
        process.stage = Stage.ANNOUNCE;
    }

    int step(int p) {
        Process me = process(p);
        switch (me.stage) {
            case WITHOUT:
                return 2;
            case ANNOUNCE:
                if (inUse.size() == 32) {
                    return 3;
                }
                me.own = new Node();
                me.own.call = me.call;
                inUse.add(me.own);
                me.announced = me.own;
                me.best = me.head;
                me.q = 0;
                me.stage = Stage.LOOK;
                return 0;
            case LOOK:
                Node seen = processes.get(me.q).head;
                me.best = seen.number > me.best.number ? seen : me.best;
                me.q++;
                me.stage = me.q == n ? Stage.ASK : Stage.LOOK;
                return 0;
            case ASK:
                me.stage = me.own.number > 0 ? Stage.FINISH : Stage.CHOOSE;
                return 0;
            case CHOOSE:
                Node other = processes.get((me.best.number + 1) % n).announced;
                me.proposal = other != null && other.number == 0 ? other : me.own;
                me.stage = Stage.PROPOSE;
                return 0;
            case PROPOSE:
                me.best.cell = me.best.cell == null ? me.proposal : me.best.cell;
                me.proposal = me.best.cell;
                me.stage = Stage.NUMBER;
                return 0;
            case NUMBER:
                me.proposal.number = me.best.number + 1;
                Node before = log.put(me.proposal.number, me.proposal);
                if (before != null && before != me.proposal) {
                    throw new AssertionError("a place was settled twice");
                }
                me.stage = Stage.MOVE;
                return 0;
            case MOVE:
                me.head = me.proposal;
                me.best = me.proposal;
                me.stage = Stage.ASK;
                return 0;
            default:
                me.head = me.own;
                me.announced = null;
                me.answers.add(lastAnswer(callsUpTo(me.own.number)));
                me.place = me.own.number;
                me.stage = Stage.WITHOUT;
                return 1;
        }
    }

    int run(int seed, int steps) {
        if (steps < 1 || steps > 1000) {
            throw new IllegalArgumentException();
        }
        int x = seed;
        int dones = 0;
        for (int i = 0; i < steps; i++) {
            x = x * 1103515245 + 12345;
            dones += step((x >>> 16) % n) == 1 ? 1 : 0;
        }
        return dones;
    }

    int done(int p) {
        return process(p).answers.size();
    }

    int answer(int p) {
        List<Integer> answers = process(p).answers;
        if (answers.isEmpty()) {
            throw new IllegalStateException();
        }
        return answers.get(answers.size() - 1);
    }

    int placeOf(int p) {
        return process(p).place;
    }

    int end() {
        return log.lastKey();
    }

    int oldest() {
        return log.values().stream().filter(inUse::contains).findFirst().get().number;
    }

    int node(int number, int what) {
        Node found = log.get(number);
        if (found == null || !inUse.contains(found)) {
            throw new NoSuchElementException();
        }
        if (what < 0 || what > 3) {
            throw new IllegalArgumentException();
        }
        return found.call[what];
    }

    int stage(int p) {
        return process(p).stage.ordinal() - 1;
    }

    int head(int p) {
        return process(p).head.number;
    }

    int used() {
        return inUse.size();
    }

    int cut() {
        Node greatest = processes.get(0).head;
        for (Process process : processes) {
            greatest = process.head.number > greatest.number ? process.head : greatest;
        }
        int least = greatest.number;
        for (Process process : processes) {
            process.head = process.stage == Stage.WITHOUT ? greatest : process.head;
            least = Math.min(least, process.head.number);
        }
        int before = inUse.size();
        inUse.removeAll(new ArrayList<>(log.headMap(least).values()));
        return before - inUse.size();
    }

    int peek(int operation, int a, int b) {
        checkOperation(operation);
        List<int[]> calls = callsUpTo(end());
        calls.add(new int[] {0, operation, a, b});
        return lastAnswer(calls);
    }

    int plain(int operation, int a, int b) {
        checkOperation(operation);
        plainCalls.add(new int[] {0, operation, a, b});
        return lastAnswer(plainCalls);
    }

    private Process process(int p) {
        if (p < 0 || p >= n) {
            throw new IndexOutOfBoundsException();
        }
        return processes.get(p);
    }

    private static void checkOperation(int operation) {
        if (operation < 0 || operation > 2) {
            throw new IllegalArgumentException();
        }
    }

    private List<int[]> callsUpTo(int number) {
        List<int[]> calls = new ArrayList<>();
        for (int place = 2; place <= number; place++) {
            calls.add(log.get(place).call);
        }
        return calls;
    }

    private int lastAnswer(List<int[]> calls) {
        switch (kind) {
            case 0:
            case 1:
                return lastOfBag(calls);
            case 2:
                return lastOfTable(calls);
            default:
                return lastOfBank(calls);
        }
    }

    private int lastOfBag(List<int[]> calls) {
        Deque<Integer> held = new ArrayDeque<>();
        int last = 0;
        for (int[] call : calls) {
            if (call[1] == 2) {
                last = held.size();
            } else if (call[1] == 1) {
                Integer out = kind == 0 ? held.pollFirst() : held.pollLast();
                last = out == null ? -1 : out;
            } else if (held.size() == 8) {
                last = -1;
            } else {
                held.addLast(call[2]);
                last = held.size();
            }
        }
        return last;
    }

    private static int lastOfTable(List<int[]> calls) {
        int[] table = new int[8];
        int last = 0;
        for (int[] call : calls) {
            last = call[1] == 2 ? Arrays.stream(table).sum() : table[call[2] & 7];
            if (call[1] == 0) {
                table[call[2] & 7] = call[3];
            }
        }
        return last;
    }

    private static int lastOfBank(List<int[]> calls) {
        int[] bank = {100, 100, 100, 100};
        int last = 0;
        for (int[] call : calls) {
            int account = call[2] & 3;
            if (call[1] == 0) {
                last = bank[account] >= 10 ? 1 : 0;
                bank[account] -= 10 * last;
                bank[call[3] & 3] += 10 * last;
            } else {
                bank[account] += call[1] == 2 ? call[3] : 0;
                last = bank[account];
            }
        }
        return last;
    }

    private enum Stage { WITHOUT, ANNOUNCE, LOOK, ASK, CHOOSE, PROPOSE, NUMBER, MOVE, FINISH }

    private static final class Node {
        int[] call;
        int number;
        Node cell;
    }

    private static final class Process {
        Stage stage = Stage.WITHOUT;
        int[] call;
        Node head;
        Node announced;
        Node own;
        Node best;
        Node proposal;
        int q;
        int place = -1;
        final List<Integer> answers = new ArrayList<>();
    }
}
