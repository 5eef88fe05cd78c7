import java.util.NoSuchElementException;

/** The edges of CUTTING, a test for each sentence. */
public final class CutEdgesTest {
    private static final Class<?> ELEMENT = NoSuchElementException.class;

    private static final int QUEUE = 0;
    private static final int STACK = 1;
    private static final int TABLE = 2;

    public static void main(String[] args) {
        Check.test("CUTTING (of a new object)", CutEdgesTest::newObject);
        Check.test("CUTTING (with no call under way)", CutEdgesTest::allWithoutACall);
        Check.test("CUTTING (again)", CutEdgesTest::again);
        Check.test("the HEAD of each process with no call under way",
                CutEdgesTest::headOfEachWithoutACall);
        Check.test("not that of one with a call under way, at whatever stage",
                CutEdgesTest::headOfOneWithACall);
        Check.test("not that of one that stopped, at whatever stage",
                CutEdgesTest::headOfOneThatStopped);
        Check.test("not that of one that WAITS", CutEdgesTest::headOfOneThatWaits);
        Check.test("the one of all HEADs with the greatest number (whosever it is)",
                CutEdgesTest::greatestWhosever);
        Check.test("the one of all HEADs with the greatest number (of a call under way)",
                CutEdgesTest::greatestOfACallUnderWay);
        Check.test("the greatest of the HEADs, not of the nodes", CutEdgesTest::notTheEnd);
        Check.test("lesser numbers than those of all HEADs (the same number stays)",
                CutEdgesTest::sameNumberStays);
        Check.test("lesser numbers than those of all HEADs (one HEAD stays behind)",
                CutEdgesTest::oneStaysBehind);
        Check.test("a node without a number is not on the log, and stays",
                CutEdgesTest::withoutANumberStays);
        Check.test("are in use no more", CutEdgesTest::inUseNoMore);
        Check.test("and told no more", CutEdgesTest::toldNoMore);
        Check.test("the full POOL is cut", CutEdgesTest::fullPool);
        Check.test("what calls gave outlives their nodes", CutEdgesTest::whatOutlives);
        Check.report("CutEdgesTest");
    }

    private static void newObject() {
        for (int n = 1; n <= 5; n++) {
            HelpedLog log = new HelpedLog(QUEUE, n);
            Check.equal("a cut", log.cut(), 0);
            Check.same("behind a cut", log, new HelpedLog(QUEUE, n));
        }
    }

    private static void allWithoutACall() {
        for (int n = 1; n <= 5; n++) {
            HelpedLog log = new HelpedLog(QUEUE, n);
            for (int p = 0; p < n; p++) {
                Check.fill(log, p, 2);
            }
            Check.equal("a cut", log.cut(), 2 * n);
            Check.equal("used", log.used(), 1);
            Check.equal("oldest", log.oldest(), 2 * n + 1);
            Check.equal("end", log.end(), 2 * n + 1);
            for (int p = 0; p < n; p++) {
                Check.equal("head of " + p, log.head(p), 2 * n + 1);
            }
        }
    }

    private static void again() {
        HelpedLog log = new HelpedLog(QUEUE, 3);
        Check.fill(log, 1, 4);
        Check.begin(log, 2, 0, 5, 2);
        Check.equal("a cut beside a call", log.cut(), 0);
        Check.equal("a second one", log.cut(), 0);
        Check.finish(log, 2);
        Check.equal("a cut", log.cut(), 5);
        Check.equal("a second one", log.cut(), 0);
        Check.equal("used", log.used(), 1);
    }

    private static void headOfEachWithoutACall() {
        HelpedLog log = new HelpedLog(QUEUE, 5);
        Check.fill(log, 1, 1);
        Check.fill(log, 2, 1);
        Check.fill(log, 3, 1);
        log.call(4, 0, 0, 0);
        log.cut();
        int[] due = {4, 4, 4, 4, 1};
        for (int p = 0; p < 5; p++) {
            Check.equal("head of " + p, log.head(p), due[p]);
        }
    }

    private static void headOfOneWithACall() {
        // Process 1 has the place 4 to come: its head is 2 until MOVE, which is its eighth step.
        for (int steps = 0; steps <= 9; steps++) {
            HelpedLog log = new HelpedLog(QUEUE, 2);
            Check.quickAnswerOf(log, 1, 0, 5, 0);
            Check.quickAnswerOf(log, 0, 0, 6, 0);
            Check.begin(log, 1, 1, 0, steps);
            String what = " behind " + steps + " steps";
            int head = steps < 8 ? 2 : 4;
            Check.equal("head" + what, log.head(1), head);
            Check.equal("a cut" + what, log.cut(), head - 1);
            Check.equal("head then" + what, log.head(1), head);
            Check.equal("oldest" + what, log.oldest(), head);
            Check.finish(log, 1);
            Check.equal("place" + what, log.placeOf(1), 4);
            Check.equal("answer" + what, log.answer(1), 5);
        }
    }

    /** Process 0 stops, process 1 goes on; place 2 goes to process 0 once it has announced. */
    private static void headOfOneThatStopped() {
        for (int steps = 0; steps <= 9; steps++) {
            HelpedLog log = new HelpedLog(QUEUE, 2);
            Check.begin(log, 0, 0, 5, steps);
            for (int i = 0; i < 3; i++) {
                Check.answerOf(log, 1, 0, 6 + i, 0);
            }
            String what = " behind " + steps + " steps";
            headStays(what, log, steps < 8 ? 1 : 2);
            Check.finish(log, 0);
            Check.equal("place" + what, log.placeOf(0), steps == 0 ? 5 : 2);
            Check.equal("answer" + what, log.answer(0), steps == 0 ? 4 : 1);
        }
        HelpedLog helped = Logs.helped();
        Check.steps(helped, 0, 3);
        Check.equal("stage of one that was helped", helped.stage(0), 7);
        headStays(" at FINISH", helped, 1);
        Check.finish(helped, 0);
        Check.equal("place at FINISH", helped.placeOf(0), 2);
    }

    private static void headStays(String what, HelpedLog log, int head) {
        Check.equal("a cut" + what, log.cut(), head - 1);
        Check.equal("head" + what, log.head(0), head);
        Check.equal("oldest" + what, log.oldest(), head);
        Check.equal("head of the other" + what, log.head(1), log.end());
    }

    private static void headOfOneThatWaits() {
        HelpedLog log = new HelpedLog(TABLE, 2);
        Check.fill(log, 0, 31);
        log.call(1, 2, 0, 0);
        log.step(1);
        Check.equal("a cut", log.cut(), 0);
        Check.equal("head of the one that waits", log.head(1), 1);
        Check.equal("head of the other", log.head(0), 32);
        Check.equal("used", log.used(), 32);
        Check.equal("it waits still", log.step(1), HelpedLog.WAITS);
    }

    private static void greatestWhosever() {
        for (int n = 1; n <= 5; n++) {
            for (int q = 0; q < n; q++) {
                HelpedLog log = new HelpedLog(QUEUE, n);
                for (int p = n - 1; p >= 0; p--) {
                    Check.fill(log, p, 1);
                }
                Check.fill(log, q, 1);
                Check.equal("a cut", log.cut(), n + 1);
                for (int p = 0; p < n; p++) {
                    Check.equal("head of " + p + ", the greatest at " + q, log.head(p), n + 2);
                }
            }
        }
    }

    private static void greatestOfACallUnderWay() {
        HelpedLog log = new HelpedLog(QUEUE, 3);
        Check.fill(log, 0, 2);
        Check.begin(log, 1, 0, 5, 9);
        Check.equal("process 1 has moved", log.stage(1), 2);
        Check.equal("its head", log.head(1), 4);
        Check.equal("a cut", log.cut(), 3);
        Check.equal("head of process 0", log.head(0), 4);
        Check.equal("head of process 2", log.head(2), 4);
        Check.finish(log, 1);
        Check.equal("answer", log.answer(1), 1);
    }

    private static void notTheEnd() {
        HelpedLog log = new HelpedLog(QUEUE, 2);
        Check.fill(log, 0, 2);
        Check.begin(log, 0, 0, 5, 7);
        Check.equal("process 0 is at MOVE", log.stage(0), 6);
        Check.equal("end", log.end(), 4);
        Check.equal("a cut", log.cut(), 2);
        Check.equal("head of process 1", log.head(1), 3);
        Check.equal("oldest", log.oldest(), 3);
        Check.equal("used", log.used(), 2);
        Check.equal("end behind it", log.end(), 4);
        Check.equal("the node above all heads", log.node(4, 2), 5);
    }

    private static void sameNumberStays() {
        HelpedLog log = new HelpedLog(QUEUE, 2);
        Check.quickAnswerOf(log, 0, 0, 5, 0);
        Check.equal("a cut", log.cut(), 1);
        Check.equal("used", log.used(), 1);
        Check.equal("the node of all heads", log.node(2, 2), 5);
        Check.equal("the one before", Check.thrownBy(() -> log.node(1, 0)), ELEMENT);
    }

    private static void oneStaysBehind() {
        for (int stopped = 0; stopped < 3; stopped++) {
            HelpedLog log = new HelpedLog(STACK, 3);
            Check.fill(log, stopped, 2);
            log.call(stopped, 0, 0, 0);
            int p = (stopped + 1) % 3;
            for (int i = 0; i < 4; i++) {
                Check.answerOf(log, p, 2, 0, 0);
            }
            Check.equal("a cut", log.cut(), 2);
            Check.equal("oldest, with " + stopped + " behind", log.oldest(), 3);
            Check.equal("used", log.used(), 5);
            Check.equal("the node of its head", log.node(3, 0), stopped);
        }
    }

    private static void withoutANumberStays() {
        HelpedLog log = new HelpedLog(QUEUE, 3);
        Check.fill(log, 0, 1);
        Check.fill(log, 1, 1);
        Check.fill(log, 2, 1);
        Check.equal("a cut of all", log.cut(), 3);
        for (int p = 0; p < 3; p++) {
            Check.begin(log, p, 0, 50 + p, 1);
        }
        Check.equal("used", log.used(), 4);
        Check.equal("a cut", log.cut(), 0);
        Check.equal("used behind it", log.used(), 4);
        Check.equal("oldest", log.oldest(), 4);
        // Places 5, 6, 7 are the turns of processes 2, 0, 1.
        Check.finish(log, 1);
        Check.finish(log, 0);
        Check.finish(log, 2);
        Check.equal("answer of process 2", log.answer(2), 1);
        Check.equal("answer of process 0", log.answer(0), 2);
        Check.equal("answer of process 1", log.answer(1), 3);
        Check.equal("the first that was put in", log.peek(1, 0, 0), 52);
    }

    private static void inUseNoMore() {
        HelpedLog log = new HelpedLog(QUEUE, 2);
        for (int round = 0; round < 4; round++) {
            Check.fill(log, round % 2, 31 - 10 * (round % 2));
            int used = log.used();
            int freed = log.cut();
            Check.equal("used behind a cut", log.used(), used - freed);
            Check.equal("what it freed", freed, 31 - 10 * (round % 2));
        }
    }

    private static void toldNoMore() {
        HelpedLog log = new HelpedLog(QUEUE, 2);
        Check.fill(log, 0, 4);
        log.cut();
        for (int number = 1; number <= 4; number++) {
            int cut = number;
            for (int what = -1; what <= 4; what++) {
                int which = what;
                Check.equal("node " + cut + ", " + which,
                        Check.thrownBy(() -> log.node(cut, which)), ELEMENT);
            }
        }
        Check.equal("oldest", log.oldest(), 5);
        Check.equal("node 5", log.node(5, 0), 0);
        Check.equal("node 5, its operation", log.node(5, 1), 2);
    }

    private static void fullPool() {
        HelpedLog log = new HelpedLog(TABLE, 2);
        Check.fill(log, 0, 31);
        Check.equal("a cut", log.cut(), 31);
        Check.equal("used", log.used(), 1);
        Check.fill(log, 1, 31);
        Check.equal("used again", log.used(), 32);
        Check.equal("end", log.end(), 63);
        Check.equal("oldest", log.oldest(), 32);
        Check.equal("a cut again", log.cut(), 31);
        Check.equal("place", log.placeOf(1), 63);
    }

    private static void whatOutlives() {
        HelpedLog log = new HelpedLog(STACK, 2);
        Check.quickAnswerOf(log, 0, 0, 5, 0);
        Check.quickAnswerOf(log, 1, 0, 6, 0);
        Check.quickAnswerOf(log, 1, 0, 7, 0);
        Check.equal("a cut", log.cut(), 3);
        Check.equal("done", log.done(0), 1);
        Check.equal("answer", log.answer(0), 1);
        Check.equal("placeOf", log.placeOf(0), 2);
        Check.equal("end", log.end(), 4);
        Check.equal("peek", log.peek(2, 0, 0), 3);
        for (int due = 7; due >= 5; due--) {
            Check.equal("a take", Check.quickAnswerOf(log, 1, 1, 0, 0), due);
        }
        Check.equal("answer with its node used again", log.answer(0), 1);
        Check.equal("placeOf with its node used again", log.placeOf(0), 2);
    }
}
