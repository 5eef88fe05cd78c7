import java.util.NoSuchElementException;
import java.util.function.Supplier;

/** The edges of what asks of a log, promises 5 to 13, and of peek and plain, 15 and 16. */
public final class AskEdgesTest {
    private static final Class<?> ARGUMENT = IllegalArgumentException.class;
    private static final Class<?> STATE = IllegalStateException.class;
    private static final Class<?> ELEMENT = NoSuchElementException.class;

    private static final int QUEUE = 0;
    private static final int STACK = 1;
    private static final int TABLE = 2;
    private static final int BANK = 3;

    private static final int MIN = Integer.MIN_VALUE;
    private static final int MAX = Integer.MAX_VALUE;
    private static final int NONE = HelpedLog.NONE;

    public static void main(String[] args) {
        done();
        answer();
        placeOf();
        end();
        oldest();
        numberOfNode();
        partOfNode();
        stage();
        head();
        used();
        peek();
        plain();
        Check.report("AskEdgesTest");
    }

    private static void done() {
        Check.test("5: done, IndexOutOfBounds",
                () -> Logs.noSuchProcess((log, p) -> log.done(p)));
        Check.test("5: how many were done (none)", () -> {
            HelpedLog log = new HelpedLog(QUEUE, 2);
            Check.equal("new", log.done(0), 0);
            log.call(0, 0, 5, 0);
            Check.equal("under way", log.done(0), 0);
            Check.steps(log, 0, 9);
            Check.equal("before FINISH", log.done(0), 0);
            Check.equal("the other", log.done(1), 0);
        });
        Check.test("5: how many were done (with a number, not done)", () -> {
            HelpedLog log = Logs.helped();
            Check.equal("helped", log.done(0), 0);
            Check.equal("helper", log.done(1), 1);
        });
        Check.test("5: how many of process p", () -> {
            HelpedLog log = new HelpedLog(QUEUE, 3);
            for (int i = 1; i <= 60; i++) {
                Check.fill(log, i % 2, 1);
                Check.equal("of 0", log.done(0), i / 2);
                Check.equal("of 1", log.done(1), (i + 1) / 2);
                log.cut();
            }
            Check.equal("of 2", log.done(2), 0);
        });
    }

    private static void answer() {
        Check.test("6: answer, IndexOutOfBounds",
                () -> Logs.noSuchProcess((log, p) -> log.answer(p)));
        Check.test("6: none was", () -> {
            Check.refusedOf("answer of a new object", () -> new HelpedLog(QUEUE, 2), STATE,
                    log -> log.answer(0));
            Check.refusedOf("answer with another done", Logs::helped, STATE,
                    log -> log.answer(0));
            for (int steps = 0; steps < 10; steps++) {
                int made = steps;
                Check.refusedOf("answer behind " + made + " steps", () -> {
                    HelpedLog log = new HelpedLog(QUEUE, 2);
                    Check.begin(log, 0, 0, 5, made);
                    return log;
                }, STATE, log -> log.answer(0));
            }
        });
        Check.test("6: the latest call of process p that was done", () -> {
            HelpedLog log = new HelpedLog(QUEUE, 2);
            Check.quickAnswerOf(log, 0, 0, 5, 0);
            Check.quickAnswerOf(log, 0, 0, 6, 0);
            Check.equal("of two", log.answer(0), 2);
            log.call(0, 1, 0, 0);
            for (int i = 0; i < 9; i++) {
                log.step(0);
                Check.equal("with one under way", log.answer(0), 2);
            }
            log.step(0);
            Check.equal("when it is done", log.answer(0), 5);
        });
        Check.test("6: the answer (0, -1, the least, the greatest)", () -> {
            HelpedLog log = new HelpedLog(QUEUE, 2);
            Check.equal("0", Check.quickAnswerOf(log, 1, 2, 0, 0), 0);
            Check.equal("-1", Check.quickAnswerOf(log, 1, 1, 0, 0), -1);
            for (int value : new int[] {MIN, MAX, 0, -1}) {
                Check.quickAnswerOf(log, 0, 0, value, 0);
                Check.equal("" + value, Check.quickAnswerOf(log, 1, 1, 0, 0), value);
            }
        });
    }

    private static void placeOf() {
        Check.test("7: placeOf, IndexOutOfBounds",
                () -> Logs.noSuchProcess((log, p) -> log.placeOf(p)));
        Check.test("7: NONE if none was", () -> {
            HelpedLog log = new HelpedLog(QUEUE, 2);
            Check.equal("new", log.placeOf(0), NONE);
            log.call(0, 0, 5, 0);
            for (int i = 0; i < 9; i++) {
                log.step(0);
                Check.equal("under way", log.placeOf(0), NONE);
            }
            log.step(0);
            Check.equal("done", log.placeOf(0), 2);
            Check.equal("the other", log.placeOf(1), NONE);
            Check.equal("with a number, not done", Logs.helped().placeOf(0), NONE);
        });
        Check.test("7: the latest call of process p that was done", () -> {
            HelpedLog log = new HelpedLog(QUEUE, 2);
            Check.fill(log, 0, 2);
            log.call(0, 0, 5, 0);
            for (int i = 0; i < 9; i++) {
                log.step(0);
                Check.equal("with one under way", log.placeOf(0), 3);
            }
            log.step(0);
            Check.equal("when it is done", log.placeOf(0), 4);
        });
    }

    private static void end() {
        Check.test("8: end, 1 without calls", () -> {
            HelpedLog log = new HelpedLog(QUEUE, 2);
            Check.equal("new", log.end(), 1);
            log.call(0, 0, 5, 0);
            Check.equal("with a call", log.end(), 1);
            for (int i = 0; i < 6; i++) {
                log.step(0);
                Check.equal("behind step " + i, log.end(), 1);
            }
            log.step(0);
            Check.equal("behind NUMBER", log.end(), 2);
        });
        Check.test("8: the greatest number of a node (the pool used again)", () -> {
            HelpedLog log = new HelpedLog(QUEUE, 1);
            Check.fill(log, 0, 31);
            Check.equal("full", log.end(), 32);
            log.cut();
            Check.equal("cut", log.end(), 32);
            for (int i = 1; i <= 40; i++) {
                Check.fill(log, 0, 1);
                Check.equal("end", log.end(), 32 + i);
                log.cut();
                Check.equal("end behind a cut", log.end(), 32 + i);
            }
        });
    }

    private static void oldest() {
        Check.test("9: oldest, of a new object", () ->
                Check.equal("oldest", new HelpedLog(QUEUE, 3).oldest(), 1));
        Check.test("9: the least number (and above 0)", () -> {
            HelpedLog log = new HelpedLog(QUEUE, 2);
            Check.begin(log, 0, 0, 5, 1);
            Check.equal("beside a node with 0", log.oldest(), 1);
            Check.finish(log, 0);
            log.cut();
            Check.begin(log, 0, 0, 6, 1);
            Check.begin(log, 1, 0, 7, 1);
            Check.equal("beside two nodes with 0", log.oldest(), 2);
        });
        Check.test("9: of a node that is in use", () -> {
            HelpedLog log = new HelpedLog(QUEUE, 1);
            for (int i = 0; i < 40; i++) {
                Check.fill(log, 0, 1);
                Check.equal("before a cut", log.oldest(), 1 + i);
                log.cut();
                Check.equal("behind a cut", log.oldest(), 2 + i);
            }
        });
    }

    private static void numberOfNode() {
        Check.test("10: no node in use has it (too small)", () -> {
            for (int number : new int[] {0, -1, -2, MIN}) {
                noSuchNode(number);
            }
        });
        Check.test("10: no node in use has it (too large)", () -> {
            for (int number : new int[] {4, 5, 32, 33, MAX}) {
                noSuchNode(number);
            }
        });
        Check.test("10: no node in use has it (it was cut)", () -> noSuchNode(1));
        Check.test("10: no node in use has it (it has no number yet)", () -> {
            HelpedLog log = new HelpedLog(QUEUE, 2);
            log.call(0, 0, 5, 0);
            for (int i = 0; i < 6; i++) {
                log.step(0);
                Check.equal("behind step " + i, Check.thrownBy(() -> log.node(2, 0)), ELEMENT);
            }
            log.step(0);
            Check.equal("behind NUMBER", log.node(2, 0), 0);
        });
    }

    private static void partOfNode() {
        Check.test("10: what is not 0 .. 3", () -> {
            for (int what : new int[] {-1, 4, -2, 5, MIN, MAX}) {
                Check.refusedOf("the FIRST, " + what, () -> new HelpedLog(QUEUE, 2), ARGUMENT,
                        log -> log.node(1, what));
                for (int number = 2; number <= 3; number++) {
                    int told = number;
                    Check.refusedOf("node " + told + ", " + what, AskEdgesTest::cutOnce, ARGUMENT,
                            log -> log.node(told, what));
                }
            }
        });
        Check.test("10: the first exception wins", () -> {
            for (int number : new int[] {MIN, -1, 0, 1, 4, MAX}) {
                for (int what : new int[] {MIN, -1, 4, MAX}) {
                    Check.refusedOf("node " + number + ", " + what, AskEdgesTest::cutOnce, ELEMENT,
                            log -> log.node(number, what));
                }
            }
        });
        Check.test("10: NONE for the FIRST", () -> {
            HelpedLog log = new HelpedLog(BANK, 2);
            Check.fill(log, 1, 2);
            for (int what = 0; what < 4; what++) {
                Check.equal("" + what, log.node(1, what), NONE);
            }
        });
        Check.test("10: 0 its process, 1 its operation, 2 a, 3 b", () -> {
            HelpedLog log = new HelpedLog(BANK, 5);
            Check.quickAnswerOf(log, 4, 2, -30, 40);
            int[] due = {4, 2, -30, 40};
            for (int what = 0; what < 4; what++) {
                Check.equal("" + what, log.node(2, what), due[what]);
            }
            Check.quickAnswerOf(log, 0, 0, MIN, MAX);
            int[] next = {0, 0, MIN, MAX};
            for (int what = 0; what < 4; what++) {
                Check.equal("of the next, " + what, log.node(3, what), next[what]);
            }
        });
    }

    /** Two nodes in use, 2 and 3: the FIRST was cut. */
    private static HelpedLog cutOnce() {
        HelpedLog log = new HelpedLog(QUEUE, 2);
        Check.quickAnswerOf(log, 0, 0, 5, 6);
        log.cut();
        Check.quickAnswerOf(log, 1, 0, 7, 8);
        return log;
    }

    private static void noSuchNode(int number) {
        for (int what = 0; what < 4; what++) {
            int which = what;
            Check.refusedOf("node " + number + ", " + which, AskEdgesTest::cutOnce, ELEMENT,
                    log -> log.node(number, which));
        }
    }

    private static void stage() {
        Check.test("11: stage, IndexOutOfBounds",
                () -> Logs.noSuchProcess((log, p) -> log.stage(p)));
        Check.test("11: NONE without a call under way", () -> {
            HelpedLog log = new HelpedLog(QUEUE, 2);
            Check.equal("new", log.stage(0), NONE);
            log.step(0);
            Check.equal("behind IDLE", log.stage(0), NONE);
            Check.answerOf(log, 0, 0, 5, 0);
            Check.equal("behind DONE", log.stage(0), NONE);
            log.cut();
            Check.equal("behind a cut", log.stage(0), NONE);
        });
        Check.test("11: 0 ANNOUNCE .. 7 FINISH", () -> {
            for (int n = 1; n <= 5; n++) {
                int[] due = new int[8 + n];
                for (int i = 0; i < n; i++) {
                    due[i] = 1;
                }
                int[] behind = {2, 3, 4, 5, 6, 2, 7, NONE};
                System.arraycopy(behind, 0, due, n, 8);
                HelpedLog log = new HelpedLog(QUEUE, n);
                log.call(n - 1, 0, 5, 0);
                Check.equal("ANNOUNCE", log.stage(n - 1), 0);
                Check.stages("of " + n, log, n - 1, due);
            }
        });
    }

    private static void head() {
        Check.test("12: head, IndexOutOfBounds",
                () -> Logs.noSuchProcess((log, p) -> log.head(p)));
        Check.test("12: the number of the HEAD (goes at MOVE and FINISH)", () -> {
            HelpedLog log = new HelpedLog(QUEUE, 2);
            log.call(1, 0, 5, 0);
            for (int i = 0; i < 7; i++) {
                log.step(1);
                Check.equal("behind step " + i, log.head(1), 1);
            }
            log.step(1);
            Check.equal("behind MOVE", log.head(1), 2);
            Check.finish(log, 1);
            Check.equal("behind FINISH", log.head(1), 2);
            HelpedLog helped = Logs.helped();
            Check.equal("of one that was helped", helped.head(0), 1);
            Check.finish(helped, 0);
            Check.equal("of one that was helped, behind FINISH", helped.head(0), 2);
        });
    }

    private static void used() {
        Check.test("13: how many nodes are in use (1 of a new object)", () -> {
            for (int n = 1; n <= 5; n++) {
                Check.equal("of " + n, new HelpedLog(QUEUE, n).used(), 1);
            }
        });
        Check.test("13: in use from ANNOUNCE on", () -> {
            HelpedLog log = new HelpedLog(QUEUE, 5);
            for (int p = 0; p < 5; p++) {
                log.call(p, 0, 5, 0);
                Check.equal("behind call", log.used(), p + 1);
                log.step(p);
                Check.equal("behind ANNOUNCE", log.used(), p + 2);
            }
            log.run(1, 1000);
            Check.equal("behind FINISH", log.used(), 6);
        });
        Check.test("13: all 32 and no more", () -> {
            HelpedLog log = new HelpedLog(QUEUE, 2);
            for (int i = 1; i <= 31; i++) {
                Check.fill(log, i % 2, 1);
                Check.equal("used", log.used(), i + 1);
            }
            log.call(0, 0, 5, 0);
            log.run(1, 100);
            Check.equal("used", log.used(), 32);
        });
    }

    private static void peek() {
        Check.test("15: operation is not 0 .. 2 (peek)", () -> {
            for (int operation : Logs.NO_OPERATIONS) {
                for (Supplier<HelpedLog> made : Logs.states()) {
                    Check.refusedOf("peek of operation " + operation, made, ARGUMENT,
                            log -> log.peek(operation, 1, 1));
                }
            }
        });
        Check.test("15: nothing changes", () -> {
            for (Supplier<HelpedLog> made : Logs.states()) {
                HelpedLog log = made.get();
                for (int operation = 0; operation < 3; operation++) {
                    int first = log.peek(operation, 3, 4);
                    Check.equal("peek again", log.peek(operation, 3, 4), first);
                }
                Check.same("behind peeks", log, made.get());
            }
        });
        Check.test("15: behind all nodes of the log (none has a call)", () -> {
            int[][] due = {{1, -1, 0}, {1, -1, 0}, {0, 0, 0}, {1, 100, 100}};
            for (int kind = 0; kind < 4; kind++) {
                HelpedLog log = new HelpedLog(kind, 2);
                for (int operation = 0; operation < 3; operation++) {
                    Check.equal("kind " + kind + ", operation " + operation,
                            log.peek(operation, 1, 0), due[kind][operation]);
                }
            }
        });
        Check.test("15: behind all nodes of the log (from NUMBER on, done or not)", () -> {
            HelpedLog log = new HelpedLog(QUEUE, 2);
            log.call(0, 0, 5, 0);
            for (int i = 0; i < 6; i++) {
                log.step(0);
                Check.equal("behind step " + i, log.peek(1, 0, 0), -1);
            }
            log.step(0);
            Check.equal("behind NUMBER", log.peek(1, 0, 0), 5);
            Check.equal("of one that was helped", Logs.helped().peek(1, 0, 0), 5);
        });
        Check.test("15: behind all nodes of the log (that were cut, too)", () -> {
            HelpedLog log = new HelpedLog(TABLE, 2);
            for (int i = 0; i < 40; i++) {
                Check.quickAnswerOf(log, i % 2, 0, i, i);
                log.cut();
            }
            Check.equal("the sum", log.peek(2, 0, 0), 32 + 33 + 34 + 35 + 36 + 37 + 38 + 39);
            Check.equal("an entry", log.peek(1, 7, 0), 39);
        });
        Check.test("15: what it would answer (with no node left)", () -> {
            HelpedLog log = new HelpedLog(QUEUE, 2);
            for (int i = 0; i < 8; i++) {
                Check.quickAnswerOf(log, 0, 0, 50 + i, 0);
            }
            Check.fill(log, 0, 23);
            Check.equal("used", log.used(), 32);
            Check.equal("a put into a full queue", log.peek(0, 9, 0), -1);
            Check.equal("a take", log.peek(1, 0, 0), 50);
            Check.equal("how many", log.peek(2, 0, 0), 8);
        });
    }

    private static void plain() {
        Check.test("16: operation is not 0 .. 2 (plain)", () -> {
            for (int operation : Logs.NO_OPERATIONS) {
                for (Supplier<HelpedLog> made : Logs.states()) {
                    Check.refusedOf("plain of operation " + operation, made, ARGUMENT,
                            log -> log.plain(operation, 1, 1));
                }
            }
        });
        Check.test("16: nobody else's", () -> {
            HelpedLog log = new HelpedLog(STACK, 2);
            HelpedLog other = new HelpedLog(STACK, 2);
            Check.quickAnswerOf(log, 0, 0, 5, 0);
            Check.equal("plain behind a call", log.plain(2, 0, 0), 0);
            log.plain(0, 6, 0);
            log.plain(0, 7, 0);
            Check.equal("peek behind plain", log.peek(2, 0, 0), 1);
            Check.equal("a call behind plain", Check.quickAnswerOf(log, 1, 1, 0, 0), 5);
            Check.equal("plain of another log", other.plain(2, 0, 0), 0);
        });
        Check.test("16: one and the same in all calls of plain", () -> {
            HelpedLog log = new HelpedLog(BANK, 2);
            Check.equal("a move", log.plain(0, 0, 1), 1);
            log.cut();
            log.run(1, 10);
            Check.quickAnswerOf(log, 0, 2, 0, 5);
            log.peek(2, 0, 7);
            Check.equal("the first", log.plain(1, 0, 0), 90);
            Check.equal("the second", log.plain(1, 1, 0), 110);
            Check.equal("an add", log.plain(2, 1, -101), 9);
            Check.equal("a move that fails", log.plain(0, 1, 0), 0);
        });
        Check.test("16: at first as such objects are", () -> {
            int[][] due = {{1, -1, 0}, {1, -1, 0}, {0, 0, 0}, {1, 100, 100}};
            for (int kind = 0; kind < 4; kind++) {
                for (int operation = 0; operation < 3; operation++) {
                    HelpedLog log = new HelpedLog(kind, 2);
                    Check.quickAnswerOf(log, 0, 0, 2, 3);
                    Check.equal("kind " + kind + ", operation " + operation,
                            log.plain(operation, 1, 0), due[kind][operation]);
                }
            }
        });
        Check.test("16: nothing of the log is changed by plain", () -> {
            for (Supplier<HelpedLog> made : Logs.states()) {
                HelpedLog log = made.get();
                String before = Check.told(log);
                log.plain(0, 3, 4);
                log.plain(0, 5, 6);
                log.plain(1, 0, 0);
                Check.equal("what is told", Check.told(log), before);
            }
        });
    }
}
