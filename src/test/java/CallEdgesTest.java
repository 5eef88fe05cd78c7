import java.util.function.Supplier;

/** The edges of a new object and of what changes it, promises 1 to 4; of cut, see CutEdgesTest. */
public final class CallEdgesTest {
    private static final Class<?> INDEX = IndexOutOfBoundsException.class;
    private static final Class<?> ARGUMENT = IllegalArgumentException.class;
    private static final Class<?> STATE = IllegalStateException.class;

    private static final int QUEUE = 0;
    private static final int STACK = 1;
    private static final int TABLE = 2;
    private static final int BANK = 3;

    private static final int MIN = Integer.MIN_VALUE;
    private static final int MAX = Integer.MAX_VALUE;
    private static final int NONE = HelpedLog.NONE;

    public static void main(String[] args) {
        newObject();
        call();
        step();
        run();
        Check.test("used for at most 512 calls (all 512)", CallEdgesTest::allCalls);
        Check.report("CallEdgesTest");
    }

    private static void newObject() {
        Check.test("1: a kind (0 if it is less)", () -> {
            kindOf(0, QUEUE);
            kindOf(-1, QUEUE);
            kindOf(-2, QUEUE);
            kindOf(MIN, QUEUE);
        });
        Check.test("1: a kind (3 if it is more)", () -> {
            kindOf(3, BANK);
            kindOf(4, BANK);
            kindOf(5, BANK);
            kindOf(MAX, BANK);
        });
        Check.test("1: a kind (neither less nor more)", () -> {
            kindOf(1, STACK);
            kindOf(2, TABLE);
        });
        Check.test("1: n processes (1 if it is less)", () -> {
            processesOf(1, 1);
            processesOf(0, 1);
            processesOf(-1, 1);
            processesOf(MIN, 1);
        });
        Check.test("1: n processes (5 if it is more)", () -> {
            processesOf(5, 5);
            processesOf(6, 5);
            processesOf(7, 5);
            processesOf(MAX, 5);
        });
        Check.test("1: n processes (neither less nor more)", () -> {
            processesOf(2, 2);
            processesOf(3, 3);
            processesOf(4, 4);
        });
        Check.test("1: no calls", CallEdgesTest::noCalls);
        Check.test("1: each object for itself", CallEdgesTest::eachForItself);
    }

    private static void kindOf(int asked, int due) {
        HelpedLog log = new HelpedLog(asked, 2);
        Check.quickAnswerOf(log, 0, 0, 5, 7);
        Check.quickAnswerOf(log, 1, 0, 6, 8);
        String what = "kind " + asked + ": ";
        // A queue and a stack count 2; a table adds 7 and 8; a bank has moved 10 from 5 & 3, 6 & 3.
        int[] counted = {2, 2, 15, 90};
        int[] first = {5, 6, 7, 90};
        Check.equal(what + "operation 2", log.peek(2, 5, 0), counted[due]);
        Check.equal(what + "operation 1", log.peek(1, 5, 0), first[due]);
        log.plain(0, 5, 7);
        log.plain(0, 6, 8);
        Check.equal(what + "plain operation 2", log.plain(2, 5, 0), counted[due]);
        Check.equal(what + "plain operation 1", log.plain(1, 5, 0), first[due]);
    }

    private static void processesOf(int asked, int due) {
        HelpedLog log = new HelpedLog(QUEUE, asked);
        for (int p = 0; p < due; p++) {
            Check.equal("of n " + asked + ", process " + p, Check.answerOf(log, p, 2, 0, 0), 0);
        }
        Check.equal("of n " + asked + ", one more", Check.thrownBy(() -> log.stage(due)), INDEX);
        log.call(0, 2, 0, 0);
        Check.equal("of n " + asked + ", steps of a call", Check.finish(log, 0), 8 + due);
    }

    private static void noCalls() {
        for (int kind = 0; kind < 4; kind++) {
            HelpedLog log = new HelpedLog(kind, 5);
            for (int p = 0; p < 5; p++) {
                Check.equal("stage", log.stage(p), NONE);
                Check.equal("step", log.step(p), HelpedLog.IDLE);
                Check.equal("done", log.done(p), 0);
                Check.equal("placeOf", log.placeOf(p), NONE);
            }
            Check.equal("end", log.end(), 1);
            Check.equal("used", log.used(), 1);
        }
    }

    private static void eachForItself() {
        HelpedLog log = new HelpedLog(QUEUE, 2);
        HelpedLog other = new HelpedLog(QUEUE, 2);
        Check.quickAnswerOf(log, 0, 0, 5, 0);
        log.plain(0, 6, 0);
        Check.same("of the other", other, new HelpedLog(QUEUE, 2));
    }

    private static void call() {
        Check.test("2: call, IndexOutOfBounds",
                () -> Logs.noSuchProcess((log, p) -> log.call(p, 0, 0, 0)));
        Check.test("2: operation is not 0 .. 2", CallEdgesTest::callOfNoOperation);
        Check.test("2: it has one under way", CallEdgesTest::callBesideACall);
        Check.test("2: it has none under way any more", CallEdgesTest::callBehindDone);
        Check.test("2: the first exception wins", CallEdgesTest::firstOfCall);
        Check.test("2: with ANNOUNCE next", CallEdgesTest::announceNext);
        Check.test("2: a call of any ints", CallEdgesTest::callOfAnyInts);
    }

    private static void callOfNoOperation() {
        for (int operation : Logs.NO_OPERATIONS) {
            for (Supplier<HelpedLog> made : Logs.states()) {
                Check.refusedOf("call of operation " + operation, made, ARGUMENT,
                        log -> log.call(1, operation, 1, 1));
            }
        }
        for (int operation = 0; operation < 3; operation++) {
            HelpedLog log = new HelpedLog(QUEUE, 1);
            log.call(0, operation, 0, 0);
            Check.finish(log, 0);
            Check.equal("the operation", log.node(2, 1), operation);
        }
    }

    private static void callBesideACall() {
        for (int steps = 0; steps < 10; steps++) {
            int made = steps;
            Check.refusedOf("call behind " + made + " steps", () -> {
                HelpedLog log = new HelpedLog(STACK, 2);
                Check.begin(log, 0, 0, 5, made);
                return log;
            }, STATE, log -> log.call(0, 0, 6, 6));
        }
    }

    private static void callBehindDone() {
        HelpedLog log = new HelpedLog(STACK, 2);
        log.call(0, 0, 5, 0);
        log.call(1, 0, 6, 0);
        Check.finish(log, 0);
        Check.equal("beside the other's", Check.thrownBy(() -> log.call(0, 0, 7, 0)), "nothing");
        Check.equal("of the other", Check.thrownBy(() -> log.call(1, 0, 8, 0)), STATE);
        Check.equal("stage", log.stage(0), 0);
    }

    private static void firstOfCall() {
        Supplier<HelpedLog> busy = () -> {
            HelpedLog log = new HelpedLog(QUEUE, 1);
            log.call(0, 0, 5, 0);
            return log;
        };
        Check.refusedOf("no process, no operation", busy, INDEX, log -> log.call(1, 3, 0, 0));
        Check.refusedOf("no process -1, no operation", busy, INDEX, log -> log.call(-1, -1, 0, 0));
        Check.refusedOf("no operation, one under way", busy, ARGUMENT, log -> log.call(0, 3, 0, 0));
        Check.refusedOf("no operation -1", busy, ARGUMENT, log -> log.call(0, -1, 0, 0));
    }

    private static void announceNext() {
        HelpedLog log = new HelpedLog(QUEUE, 2);
        log.call(1, 0, 5, 0);
        Check.equal("stage", log.stage(1), 0);
        Check.equal("stage of the other", log.stage(0), NONE);
        Check.equal("used", log.used(), 1);
        log.step(1);
        Check.equal("stage behind a step", log.stage(1), 1);
        Check.equal("used behind a step", log.used(), 2);
    }

    private static void callOfAnyInts() {
        int[] ints = {MIN, MIN + 1, -1, 0, 1, 255, 256, 65536, MAX};
        HelpedLog log = new HelpedLog(TABLE, 2);
        for (int i = 0; i < ints.length; i++) {
            Check.quickAnswerOf(log, i % 2, i % 3, ints[i], ints[ints.length - 1 - i]);
            Check.equal("process", log.node(2 + i, 0), i % 2);
            Check.equal("operation", log.node(2 + i, 1), i % 3);
            Check.equal("a", log.node(2 + i, 2), ints[i]);
            Check.equal("b", log.node(2 + i, 3), ints[ints.length - 1 - i]);
        }
    }

    private static void step() {
        Check.test("3: step, IndexOutOfBounds",
                () -> Logs.noSuchProcess((log, p) -> log.step(p)));
        Check.test("3: DONE when the call is done by it, else GOES_ON", () -> {
            for (int n = 1; n <= 5; n++) {
                HelpedLog log = new HelpedLog(BANK, n);
                log.call(n - 1, 0, 1, 2);
                for (int i = 1; i < 8 + n; i++) {
                    Check.equal("step " + i + " of n " + n, log.step(n - 1), HelpedLog.GOES_ON);
                }
                Check.equal("last step of n " + n, log.step(n - 1), HelpedLog.DONE);
            }
        });
        Check.test("3: DONE when the call is done by it, not when another numbers it", () -> {
            HelpedLog log = new HelpedLog(BANK, 2);
            Check.begin(log, 0, 2, 1, 1);
            Check.begin(log, 1, 2, 1, 6);
            Check.equal("NUMBER of the helper", log.step(1), HelpedLog.GOES_ON);
            Check.equal("done", log.done(0), 0);
            Check.equal("stage", log.stage(0), 1);
        });
        Check.test("3: IDLE (nothing happens) when none is under way", () -> {
            for (Supplier<HelpedLog> made : Logs.states()) {
                HelpedLog log = made.get();
                Check.equal("step", log.step(0), HelpedLog.IDLE);
                Check.equal("step again", log.step(0), HelpedLog.IDLE);
                Check.same("behind IDLE", log, made.get());
            }
        });
        Check.test("3: WAITS as said", () -> {
            HelpedLog log = new HelpedLog(BANK, 2);
            Check.fill(log, 0, 31);
            log.call(0, 0, 1, 2);
            log.call(1, 0, 1, 2);
            Check.equal("step of 0", log.step(0), HelpedLog.WAITS);
            Check.equal("step of 1", log.step(1), HelpedLog.WAITS);
            Check.equal("step of 0 again", log.step(0), HelpedLog.WAITS);
        });
    }

    private static void run() {
        Check.test("4: steps is not 1 .. 1000", () -> {
            for (int steps : new int[] {0, -1, -1000, MIN, 1001, 1002, MAX}) {
                for (Supplier<HelpedLog> made : Logs.states()) {
                    Check.refusedOf("run of " + steps, made, ARGUMENT, log -> log.run(1, steps));
                }
            }
        });
        Check.test("4: one step", CallEdgesTest::oneStep);
        Check.test("4: 1000 steps", CallEdgesTest::thousandSteps);
        Check.test("4: so many steps", CallEdgesTest::soManySteps);
        Check.test("4: x becomes x * 1103515245 + 12345 (wrapping)", CallEdgesTest::drawnWrapping);
        Check.test("4: process (x >>> 16) % n", CallEdgesTest::drawnOfEach);
        Check.test("4: how many of them answered DONE", CallEdgesTest::onlyDoneCounts);
    }

    private static void oneStep() {
        HelpedLog log = new HelpedLog(QUEUE, 1);
        log.call(0, 0, 5, 0);
        for (int stage : new int[] {1, 2, 3, 4, 5, 6, 2, 7}) {
            Check.equal("run of 1", log.run(77, 1), 0);
            Check.equal("stage", log.stage(0), stage);
        }
        Check.equal("run of the last", log.run(77, 1), 1);
        Check.equal("run without a call", log.run(77, 1), 0);
    }

    /** Long before the 1000th step none has a call left, so that its refusal alone would show. */
    private static void thousandSteps() {
        for (int n = 1; n <= 5; n++) {
            HelpedLog log = Logs.called(n);
            HelpedLog parts = Logs.called(n);
            int seed = 31 * n;
            Check.equal("run of 1000", log.run(seed, 1000), n);
            int dones = parts.run(seed, 20);
            dones += parts.run(drawn(seed, 20), 979);
            dones += parts.run(drawn(seed, 999), 1);
            Check.equal("in parts", dones, n);
            Check.same("behind 1000 steps", log, parts);
        }
    }

    private static void soManySteps() {
        for (int steps = 1; steps <= 9; steps++) {
            HelpedLog log = new HelpedLog(QUEUE, 1);
            log.call(0, 0, 5, 0);
            Check.equal("run of " + steps, log.run(steps, steps), steps == 9 ? 1 : 0);
            int[] stages = {0, 1, 2, 3, 4, 5, 6, 2, 7, NONE};
            Check.equal("stage behind " + steps, log.stage(0), stages[steps]);
        }
    }

    private static void drawnWrapping() {
        int[] seeds = {0, 1, -1, 2, 12345, 65536, 1 << 30, MIN, MIN + 1, MAX, MAX - 1};
        for (int seed : seeds) {
            for (int n = 2; n <= 5; n++) {
                for (int steps = 1; steps <= 4; steps++) {
                    drawnAsDue(seed, n, steps);
                }
            }
        }
    }

    /** Drawn in longs and cut to 32 bits without a sign, so that nothing wraps here. */
    private static void drawnAsDue(int seed, int n, int steps) {
        HelpedLog log = Logs.called(n);
        HelpedLog stepped = Logs.called(n);
        log.run(seed, steps);
        long x = seed & 0xffffffffL;
        for (int i = 0; i < steps; i++) {
            x = (x * 1103515245L + 12345L) & 0xffffffffL;
            stepped.step((int) (x / 65536 % n));
        }
        for (int p = 0; p < n; p++) {
            Check.equal("stage of " + p + " of " + n + " behind run(" + seed + ", " + steps + ")",
                    log.stage(p), stepped.stage(p));
        }
    }

    private static void drawnOfEach() {
        // By hand: 12345 >>> 16 is 0; behind -1, x is -1103502900, and x >>> 16 is 48697.
        Check.equal("seed 0, of 5", firstDrawn(0, 5), 0);
        for (int n = 2; n <= 5; n++) {
            Check.equal("seed -1, of " + n, firstDrawn(-1, n), 48697 % n);
        }
        boolean[] seen = new boolean[5];
        for (int seed = 0; seed < 50; seed++) {
            seen[firstDrawn(seed, 5)] = true;
        }
        for (int p = 0; p < 5; p++) {
            Check.equal("process " + p + " is drawn", seen[p], true);
        }
    }

    private static int firstDrawn(int seed, int n) {
        HelpedLog log = Logs.called(n);
        log.run(seed, 1);
        int found = NONE;
        for (int p = 0; p < n; p++) {
            if (log.stage(p) == 1) {
                found = p;
            }
        }
        return found;
    }

    private static void onlyDoneCounts() {
        HelpedLog idle = new HelpedLog(QUEUE, 3);
        Check.equal("run without calls", idle.run(3, 1000), 0);
        idle.call(1, 0, 5, 0);
        Check.equal("run with one call", idle.run(3, 1000), 1);
        Check.equal("run behind it", idle.run(3, 1000), 0);
        HelpedLog full = new HelpedLog(QUEUE, 3);
        Check.fill(full, 0, 30);
        for (int p = 0; p < 3; p++) {
            full.call(p, 2, 0, 0);
        }
        Check.equal("run with one node for three", full.run(3, 1000), 1);
        Check.equal("run with none", full.run(3, 1000), 0);
        HelpedLog five = Logs.called(5);
        Check.equal("run of five calls", five.run(8, 1000), 5);
    }

    /** 512 calls and not one more: 128 calls of processes, each run, answered and cut. */
    private static void allCalls() {
        for (int n = 1; n <= 5; n++) {
            HelpedLog log = new HelpedLog(QUEUE, n);
            for (int i = 0; i < 128; i++) {
                int p = i % n;
                log.call(p, i % 2, i, 0);
                Check.equal("run " + i, log.run(i, 400), 1);
                Check.equal("answer " + i, log.answer(p), i % 2 == 0 ? 1 : i - 1);
                Check.equal("cut " + i, log.cut(), 1);
            }
        }
    }

    private static int drawn(int seed, int steps) {
        int x = seed;
        for (int i = 0; i < steps; i++) {
            x = x * 1103515245 + 12345;
        }
        return x;
    }
}
