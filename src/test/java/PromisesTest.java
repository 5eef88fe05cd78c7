import java.util.NoSuchElementException;

/** Promises 1 to 16, one by one: ordinary inputs, edges and wrong inputs. */
public final class PromisesTest {
    private static final Class<?> INDEX = IndexOutOfBoundsException.class;
    private static final Class<?> ARGUMENT = IllegalArgumentException.class;
    private static final Class<?> STATE = IllegalStateException.class;
    private static final Class<?> ELEMENT = NoSuchElementException.class;

    private static final int QUEUE = 0;
    private static final int STACK = 1;
    private static final int TABLE = 2;
    private static final int BANK = 3;

    public static void main(String[] args) {
        promise1NewObject();
        promise2Call();
        promise3StepsOfOneProcess();
        promise3Helping();
        promise3CellKeepsTheFirst();
        promise3LookTakesTheGreatestHead();
        promise3WaitsForANode();
        promise4Run();
        promise5Done();
        promise6Answer();
        promise6AnswersOfKinds();
        promise7PlaceOf();
        promise8End();
        promise9Oldest();
        promise10Node();
        promise11Stage();
        promise12Head();
        promise13Used();
        promise14Cut();
        promise14CutBesideCallsUnderWay();
        promise15Peek();
        promise16Plain();
        Check.report("PromisesTest");
    }

    private static void promise1NewObject() {
        int[][] asked = {{0, 1}, {3, 5}, {-1, 0}, {4, 6}, {Integer.MIN_VALUE, Integer.MIN_VALUE},
            {Integer.MAX_VALUE, Integer.MAX_VALUE}, {1, 2}, {2, 4}};
        int[][] due = {{0, 1}, {3, 5}, {0, 1}, {3, 5}, {0, 1}, {3, 5}, {1, 2}, {2, 4}};
        for (int i = 0; i < asked.length; i++) {
            HelpedLog log = new HelpedLog(asked[i][0], asked[i][1]);
            String what = "new " + asked[i][0] + ", " + asked[i][1] + ": ";
            Check.equal(what + "kind", kindOf(log), due[i][0]);
            Check.equal(what + "processes", Check.processes(log), due[i][1]);
            Check.equal(what + "end", log.end(), 1);
            Check.equal(what + "oldest", log.oldest(), 1);
            Check.equal(what + "used", log.used(), 1);
            for (int p = 0; p < due[i][1]; p++) {
                Check.equal(what + "stage", log.stage(p), HelpedLog.NONE);
                Check.equal(what + "head", log.head(p), 1);
                Check.equal(what + "done", log.done(p), 0);
                Check.equal(what + "placeOf", log.placeOf(p), HelpedLog.NONE);
            }
        }
    }

    private static int kindOf(HelpedLog log) {
        if (log.peek(1, 0, 0) == 100) {
            return BANK;
        }
        if (log.peek(1, 0, 0) == 0) {
            return TABLE;
        }
        log.plain(0, 5, 0);
        log.plain(0, 6, 0);
        return log.plain(1, 0, 0) == 5 ? QUEUE : STACK;
    }

    private static void promise2Call() {
        HelpedLog log = new HelpedLog(QUEUE, 2);
        log.call(1, 2, 8, 9);
        Check.equal("stage behind call", log.stage(1), 0);
        Check.equal("stage of the other", log.stage(0), HelpedLog.NONE);
        Check.equal("used behind call", log.used(), 1);
        Check.refused("call of process -1", log, INDEX, () -> log.call(-1, 0, 0, 0));
        Check.refused("call of process 2", log, INDEX, () -> log.call(2, 3, 0, 0));
        Check.refused("operation -1", log, ARGUMENT, () -> log.call(0, -1, 0, 0));
        Check.refused("operation 3", log, ARGUMENT, () -> log.call(0, 3, 0, 0));
        Check.refused("operation 3 beside a call", log, ARGUMENT, () -> log.call(1, 3, 0, 0));
        Check.refused("call beside a call", log, STATE, () -> log.call(1, 0, 1, 1));
        Check.finish(log, 1);
        Check.equal("operation", log.node(2, 1), 2);
        Check.equal("a", log.node(2, 2), 8);
        Check.equal("b", log.node(2, 3), 9);
        Check.equal("the next call", Check.quickAnswerOf(log, 1, 0, 1, 1), 1);
        for (int steps = 1; steps < 10; steps++) {
            HelpedLog busy = new HelpedLog(QUEUE, 2);
            busy.call(0, 0, 1, 1);
            Check.steps(busy, 0, steps);
            Check.refused("call behind " + steps + " steps", busy, STATE,
                    () -> busy.call(0, 1, 0, 0));
        }
    }

    private static void promise3StepsOfOneProcess() {
        HelpedLog log = new HelpedLog(QUEUE, 3);
        String before = Check.told(log);
        Check.equal("step without a call", log.step(2), HelpedLog.IDLE);
        Check.equal("what is told behind it", Check.told(log), before);
        log.call(2, 0, 4, 0);
        for (int i = 0; i < 10; i++) {
            Check.equal("step " + i, log.step(2), HelpedLog.GOES_ON);
        }
        Check.equal("the last step", log.step(2), HelpedLog.DONE);
        Check.equal("a step more", log.step(2), HelpedLog.IDLE);
        Check.refused("step of process -1", log, INDEX, () -> log.step(-1));
        Check.refused("step of process 3", log, INDEX, () -> log.step(3));
        for (int n = 1; n <= 5; n++) {
            HelpedLog other = new HelpedLog(QUEUE, n);
            other.call(0, 2, 0, 0);
            Check.equal("steps of one call, n " + n, Check.finish(other, 0), 8 + n);
        }
    }

    private static void promise3Helping() {
        HelpedLog log = new HelpedLog(QUEUE, 3);
        log.call(2, 0, 22, 0);
        log.step(2);
        // Place 2 is that of process 2, which has a node announced and makes no step more.
        log.call(0, 0, 10, 0);
        Check.finish(log, 0);
        Check.equal("place 2 is settled for", log.node(2, 0), 2);
        Check.equal("place 3 is settled for", log.node(3, 0), 0);
        // Place 5 would be that of process 2 again, but its node has a number now.
        log.call(1, 0, 11, 0);
        Check.finish(log, 1);
        log.call(1, 0, 12, 0);
        Check.finish(log, 1);
        Check.equal("place 5 is settled for", log.node(5, 0), 1);
        Check.stages("the helped one only looks", log, 2, 1, 1, 2, 7, -1);
        Check.equal("its place", log.placeOf(2), 2);
        Check.equal("its answer", log.answer(2), 1);
        // It is done: at its next turn, place 8, it has none announced.
        for (int place = 6; place <= 8; place++) {
            log.call(0, 2, 0, 0);
            Check.finish(log, 0);
        }
        Check.equal("place 8 is settled for", log.node(8, 0), 0);
    }

    private static void promise3CellKeepsTheFirst() {
        HelpedLog log = new HelpedLog(STACK, 2);
        log.call(0, 0, 70, 0);
        Check.steps(log, 0, 5);
        Check.equal("process 0 is at PROPOSE with its own", log.stage(0), 4);
        log.call(1, 0, 71, 0);
        Check.stages("process 1 goes by", log, 1, 1, 1, 2, 3, 4, 5, 6, 2);
        Check.equal("place 2 is settled for", log.node(2, 0), 0);
        Check.equal("head of the one that went by", log.head(1), 2);
        Check.stages("process 0 comes late", log, 0, 5, 6, 2, 7, -1);
        Check.equal("its place", log.placeOf(0), 2);
        Check.equal("the places", log.end(), 2);
        Check.equal("the call that two have numbered was done once", log.peek(2, 0, 0), 1);

        HelpedLog race = new HelpedLog(STACK, 3);
        race.call(0, 0, 70, 0);
        race.call(1, 0, 71, 0);
        Check.steps(race, 0, 6);
        Check.steps(race, 1, 6);
        Check.equal("both are at PROPOSE", race.stage(0) + race.stage(1), 8);
        Check.steps(race, 1, 1);
        Check.steps(race, 0, 3);
        Check.equal("the cell keeps the first", race.node(2, 0), 1);
        Check.equal("the second has moved behind it", race.head(0), 2);
        Check.equal("and has to go on", race.stage(0), 2);
        Check.finish(race, 0);
        Check.equal("its place", race.placeOf(0), 3);
        Check.finish(race, 1);
        Check.equal("place of the first", race.placeOf(1), 2);
        Check.equal("answer of the second", race.answer(0), 2);
    }

    private static void promise3LookTakesTheGreatestHead() {
        HelpedLog log = new HelpedLog(QUEUE, 3);
        for (int i = 0; i < 4; i++) {
            Check.answerOf(log, 1, 0, i, 0);
        }
        Check.answerOf(log, 2, 0, 9, 0);
        log.call(0, 1, 0, 0);
        Check.steps(log, 0, 4);
        Check.equal("head while looking", log.head(0), 1);
        Check.stages("one place is enough", log, 0, 3, 4, 5, 6, 2, 7, -1);
        Check.equal("its place", log.placeOf(0), 7);

        HelpedLog early = new HelpedLog(QUEUE, 2);
        early.call(0, 0, 1, 0);
        early.call(1, 0, 2, 0);
        Check.steps(early, 0, 3);
        Check.finish(early, 1);
        Check.equal("process 1 is there first, and helps", early.placeOf(1), 3);
        Check.stages("process 0 has looked before", early, 0, 7, -1);
        Check.equal("place of process 0", early.placeOf(0), 2);
    }

    private static void promise3WaitsForANode() {
        HelpedLog log = new HelpedLog(TABLE, 2);
        for (int i = 0; i < 31; i++) {
            Check.quickAnswerOf(log, 0, 0, i, i);
        }
        log.call(1, 2, 0, 0);
        log.call(0, 1, 3, 0);
        String before = Check.told(log);
        Check.equal("step without a node left", log.step(1), HelpedLog.WAITS);
        Check.equal("step of another", log.step(0), HelpedLog.WAITS);
        Check.equal("a second step", log.step(1), HelpedLog.WAITS);
        Check.equal("what is told behind them", Check.told(log), before);
        Check.equal("used", log.used(), 32);
        Check.equal("a cut with both under way", log.cut(), 0);
        Check.equal("a step behind it", log.step(1), HelpedLog.WAITS);

        HelpedLog last = new HelpedLog(TABLE, 2);
        for (int i = 0; i < 30; i++) {
            Check.quickAnswerOf(last, 0, 0, i, i);
        }
        last.call(0, 2, 0, 0);
        last.call(1, 2, 0, 0);
        Check.equal("the last node", last.step(1), HelpedLog.GOES_ON);
        Check.equal("none is left", last.step(0), HelpedLog.WAITS);
        Check.finish(last, 1);
        Check.equal("behind DONE it is still in use", last.step(0), HelpedLog.WAITS);
        Check.equal("cut leaves what the waiting one's head needs", last.cut(), 30);
        Check.equal("then it goes on", last.step(0), HelpedLog.GOES_ON);
        Check.finish(last, 0);
        Check.equal("place", last.placeOf(0), 33);
        // Entries 6 and 7 were set last by 22 and 23, the others by 24 .. 29.
        Check.equal("answer", last.answer(0), 22 + 23 + 24 + 25 + 26 + 27 + 28 + 29);
    }

    private static void promise4Run() {
        int[] seeds = {0, 1, -1, 12345, Integer.MIN_VALUE, Integer.MAX_VALUE};
        for (int n = 1; n <= 5; n++) {
            for (int seed : seeds) {
                for (int steps : new int[] {1, 2, 17, 40, 300}) {
                    HelpedLog log = Logs.called(n);
                    HelpedLog stepped = Logs.called(n);
                    String what = "run(" + seed + ", " + steps + ") of " + n;
                    Check.equal(what, log.run(seed, steps), drawn(stepped, n, seed, steps));
                    Check.equal("told behind " + what, Check.told(log), Check.told(stepped));
                }
            }
        }
        HelpedLog log = new HelpedLog(QUEUE, 1);
        Check.equal("run without calls", log.run(1, 1000), 0);
        log.call(0, 0, 1, 1);
        Check.equal("run, one step too few", log.run(5, 8), 0);
        Check.equal("run, the last step", log.run(5, 1), 1);
        log.call(0, 0, 1, 1);
        for (int steps : new int[] {0, -1, 1001, Integer.MIN_VALUE, Integer.MAX_VALUE}) {
            Check.refused("run of " + steps, log, ARGUMENT, () -> log.run(1, steps));
        }
    }

    private static int drawn(HelpedLog log, int n, int seed, int steps) {
        int x = seed;
        int dones = 0;
        for (int i = 0; i < steps; i++) {
            x = x * 1103515245 + 12345;
            if (log.step((x >>> 16) % n) == HelpedLog.DONE) {
                dones++;
            }
        }
        return dones;
    }

    private static void promise5Done() {
        HelpedLog log = new HelpedLog(QUEUE, 2);
        for (int i = 0; i < 4; i++) {
            Check.equal("done", log.done(0), i);
            log.call(0, 2, 0, 0);
            Check.steps(log, 0, 9);
            Check.equal("done before FINISH", log.done(0), i);
            log.step(0);
        }
        Check.equal("done", log.done(0), 4);
        Check.equal("done of the other", log.done(1), 0);
        log.cut();
        Check.equal("done behind a cut", log.done(0), 4);
        Check.refused("done of process -1", log, INDEX, () -> log.done(-1));
        Check.refused("done of process 2", log, INDEX, () -> log.done(2));
    }

    private static void promise6Answer() {
        HelpedLog log = new HelpedLog(QUEUE, 2);
        Check.refused("answer of process -1", log, INDEX, () -> log.answer(-1));
        Check.refused("answer of process 2", log, INDEX, () -> log.answer(2));
        Check.refused("answer without a call", log, STATE, () -> log.answer(0));
        log.call(0, 0, 7, 0);
        Check.steps(log, 0, 9);
        Check.refused("answer before FINISH", log, STATE, () -> log.answer(0));
        log.step(0);
        Check.equal("answer", log.answer(0), 1);
        Check.equal("answer of the next call", Check.answerOf(log, 0, 1, 0, 0), 7);
        log.call(0, 2, 0, 0);
        Check.steps(log, 0, 9);
        Check.equal("answer beside a call under way", log.answer(0), 7);
        log.cut();
        Check.equal("answer behind a cut", log.answer(0), 7);
        Check.refused("answer of the other", log, STATE, () -> log.answer(1));

        // An answer is that of the place on the log, however much has come behind it since.
        HelpedLog late = new HelpedLog(STACK, 2);
        late.call(0, 1, 0, 0);
        late.step(0);
        Check.equal("a put behind a take", Check.answerOf(late, 1, 0, 5, 0), 1);
        Check.equal("a put more", Check.answerOf(late, 1, 0, 6, 0), 2);
        late.cut();
        Check.finish(late, 0);
        Check.equal("the take was of an empty stack", late.answer(0), -1);
        Check.equal("the next take", Check.answerOf(late, 0, 1, 0, 0), 6);
    }

    private static void promise6AnswersOfKinds() {
        Check.answers(new HelpedLog(QUEUE, 1), new int[][] {{1, 0, 0, -1}, {2, 0, 0, 0},
            {0, 5, 9, 1}, {0, -6, 9, 2}, {2, 0, 0, 2}, {1, 0, 0, 5}, {0, 7, 9, 2}, {1, 0, 0, -6},
            {1, 0, 0, 7}, {1, 0, 0, -1}});
        Check.answers(new HelpedLog(STACK, 1), new int[][] {{1, 0, 0, -1}, {2, 0, 0, 0},
            {0, 5, 9, 1}, {0, -6, 9, 2}, {2, 0, 0, 2}, {1, 0, 0, -6}, {0, 7, 9, 2}, {1, 0, 0, 7},
            {1, 0, 0, 5}, {1, 0, 0, -1}});
        Check.answers(new HelpedLog(QUEUE, 1), eightAndMore(100, 101));
        Check.answers(new HelpedLog(STACK, 1), eightAndMore(107, 106));
        Check.answers(new HelpedLog(TABLE, 1), new int[][] {{2, 0, 0, 0}, {0, 3, 40, 0},
            {0, 11, 50, 40}, {1, 3, 9, 50}, {1, -5, 9, 50}, {0, -1, Integer.MAX_VALUE, 0},
            {1, 7, 0, Integer.MAX_VALUE}, {2, 1, 1, Integer.MAX_VALUE + 50}, {1, 4, 0, 0},
            {0, 7, -3, Integer.MAX_VALUE}, {2, 0, 0, 47}});
        Check.answers(new HelpedLog(BANK, 1), new int[][] {{1, 2, 0, 100}, {0, 2, 3, 1},
            {1, 2, 0, 90}, {1, 3, 0, 110}, {0, 1, 1, 1}, {1, 1, 0, 100}, {2, 0, -91, 9},
            {0, 0, 1, 0}, {1, 0, 0, 9}, {1, 1, 0, 100}, {0, 0, 0, 0}, {2, 4, 1, 10}, {0, -4, -1, 1},
            {1, 0, 0, 0}, {1, 7, 0, 120}, {2, 3, Integer.MAX_VALUE, Integer.MIN_VALUE + 119},
            {0, 3, 0, 0}, {2, 2, Integer.MAX_VALUE - 90, Integer.MAX_VALUE},
            {0, 1, 2, 1}, {1, 2, 0, Integer.MIN_VALUE + 9}});
    }

    private static int[][] eightAndMore(int firstOut, int secondOut) {
        int[][] calls = new int[14][];
        for (int i = 0; i < 8; i++) {
            calls[i] = new int[] {0, 100 + i, 0, i + 1};
        }
        calls[8] = new int[] {0, 108, 0, -1};
        calls[9] = new int[] {2, 0, 0, 8};
        calls[10] = new int[] {1, 0, 0, firstOut};
        calls[11] = new int[] {1, 0, 0, secondOut};
        calls[12] = new int[] {0, 109, 0, 7};
        calls[13] = new int[] {2, 0, 0, 7};
        return calls;
    }

    private static void promise7PlaceOf() {
        HelpedLog log = new HelpedLog(QUEUE, 2);
        Check.equal("placeOf without a call", log.placeOf(0), HelpedLog.NONE);
        log.call(0, 0, 7, 0);
        Check.steps(log, 0, 9);
        Check.equal("placeOf before FINISH", log.placeOf(0), HelpedLog.NONE);
        log.step(0);
        Check.equal("placeOf", log.placeOf(0), 2);
        Check.answerOf(log, 1, 0, 8, 0);
        Check.answerOf(log, 1, 0, 9, 0);
        Check.equal("placeOf of the other", log.placeOf(1), 4);
        log.cut();
        Check.equal("placeOf of a node that was cut", log.placeOf(0), 2);
        Check.answerOf(log, 1, 0, 10, 0);
        Check.equal("placeOf of a node used again", log.placeOf(0), 2);
        Check.equal("placeOf the one that uses it", log.placeOf(1), 5);
        Check.refused("placeOf of process -1", log, INDEX, () -> log.placeOf(-1));
        Check.refused("placeOf of process 2", log, INDEX, () -> log.placeOf(2));
    }

    private static void promise8End() {
        HelpedLog log = new HelpedLog(QUEUE, 2);
        Check.equal("end without calls", log.end(), 1);
        log.call(0, 0, 7, 0);
        Check.steps(log, 0, 6);
        Check.equal("end with a node in a cell", log.end(), 1);
        log.step(0);
        Check.equal("end behind NUMBER", log.end(), 2);
        Check.steps(log, 0, 3);
        Check.equal("end behind FINISH", log.end(), 2);
        log.cut();
        Check.equal("end behind a cut", log.end(), 2);
        for (int i = 0; i < 40; i++) {
            Check.quickAnswerOf(log, i % 2, 2, 0, 0);
            log.cut();
            Check.equal("end", log.end(), 3 + i);
        }
    }

    private static void promise9Oldest() {
        HelpedLog log = new HelpedLog(QUEUE, 2);
        Check.equal("oldest without calls", log.oldest(), 1);
        log.call(0, 0, 7, 0);
        log.step(0);
        Check.equal("oldest beside a node without a number", log.oldest(), 1);
        Check.finish(log, 0);
        Check.equal("oldest before a cut", log.oldest(), 1);
        log.cut();
        Check.equal("oldest behind a cut", log.oldest(), 2);
        log.call(1, 0, 8, 0);
        log.step(1);
        Check.equal("oldest with the first one's node used again", log.oldest(), 2);
        for (int i = 0; i < 5; i++) {
            Check.answerOf(log, 0, 2, 0, 0);
        }
        log.cut();
        Check.equal("oldest with a process that stopped", log.oldest(), 2);
    }

    private static void promise10Node() {
        HelpedLog log = new HelpedLog(BANK, 3);
        for (int what = 0; what < 4; what++) {
            Check.equal("the first, " + what, log.node(1, what), HelpedLog.NONE);
        }
        log.call(2, 1, -7, Integer.MAX_VALUE);
        Check.steps(log, 2, 7);
        Check.refused("a node in a cell without a number", log, ELEMENT, () -> log.node(2, 0));
        Check.refused("the number 0 of an announced node", log, ELEMENT, () -> log.node(0, 0));
        log.step(2);
        int[] due = {2, 1, -7, Integer.MAX_VALUE};
        for (int what = 0; what < 4; what++) {
            Check.equal("node 2, " + what, log.node(2, what), due[what]);
        }
        Check.finish(log, 2);
        for (int number : new int[] {0, -1, 3, 33, Integer.MIN_VALUE, Integer.MAX_VALUE}) {
            Check.equal("node " + number, Check.thrownBy(() -> log.node(number, 0)), ELEMENT);
            Check.equal("node " + number + " and 4", Check.thrownBy(() -> log.node(number, 4)),
                    ELEMENT);
        }
        for (int what : new int[] {-1, 4, Integer.MIN_VALUE, Integer.MAX_VALUE}) {
            Check.equal("node 2, " + what, Check.thrownBy(() -> log.node(2, what)), ARGUMENT);
            Check.equal("node 1, " + what, Check.thrownBy(() -> log.node(1, what)), ARGUMENT);
        }
        log.cut();
        Check.refused("a node that was cut", log, ELEMENT, () -> log.node(1, 0));
        Check.equal("a node that is left", log.node(2, 0), 2);
        Check.answerOf(log, 1, 2, 3, 4);
        Check.equal("node 3 in the place of the first", log.node(3, 0), 1);
        Check.equal("its a", log.node(3, 2), 3);
        Check.refused("the number of the first", log, ELEMENT, () -> log.node(1, 0));
    }

    private static void promise11Stage() {
        HelpedLog log = new HelpedLog(QUEUE, 3);
        Check.equal("stage without a call", log.stage(1), HelpedLog.NONE);
        log.call(1, 0, 7, 0);
        Check.equal("stage behind call", log.stage(1), 0);
        Check.stages("stages of one call", log, 1, 1, 1, 1, 2, 3, 4, 5, 6, 2, 7, -1);
        HelpedLog alone = new HelpedLog(QUEUE, 1);
        alone.call(0, 0, 7, 0);
        Check.stages("stages of one alone", alone, 0, 1, 2, 3, 4, 5, 6, 2, 7, -1, -1);
        Check.refused("stage of process -1", log, INDEX, () -> log.stage(-1));
        Check.refused("stage of process 3", log, INDEX, () -> log.stage(3));
    }

    private static void promise12Head() {
        HelpedLog log = new HelpedLog(QUEUE, 2);
        Check.equal("head without a call", log.head(0), 1);
        log.call(1, 0, 5, 0);
        log.step(1);
        log.call(0, 0, 7, 0);
        Check.finish(log, 0);
        Check.equal("head behind FINISH", log.head(0), 2);
        log.call(0, 0, 8, 0);
        Check.steps(log, 0, 7);
        Check.equal("head before MOVE", log.head(0), 2);
        log.step(0);
        Check.equal("head behind MOVE, with another's node", log.head(0), 3);
        Check.finish(log, 0);
        Check.equal("head behind the second FINISH", log.head(0), 4);
        Check.equal("head of the other", log.head(1), 1);
        Check.finish(log, 1);
        Check.equal("head behind FINISH is the own node", log.head(1), 3);
        Check.refused("head of process -1", log, INDEX, () -> log.head(-1));
        Check.refused("head of process 2", log, INDEX, () -> log.head(2));
    }

    private static void promise13Used() {
        HelpedLog log = new HelpedLog(QUEUE, 2);
        Check.equal("used without calls", log.used(), 1);
        log.call(0, 0, 7, 0);
        Check.equal("used before ANNOUNCE", log.used(), 1);
        log.step(0);
        Check.equal("used behind ANNOUNCE", log.used(), 2);
        Check.finish(log, 0);
        Check.equal("used behind FINISH", log.used(), 2);
        log.cut();
        Check.equal("used behind a cut", log.used(), 1);
        for (int i = 1; i <= 31; i++) {
            Check.answerOf(log, 0, 2, 0, 0);
            Check.equal("used", log.used(), 1 + i);
        }
    }

    private static void promise14Cut() {
        HelpedLog log = new HelpedLog(QUEUE, 3);
        Check.equal("cut without calls", log.cut(), 0);
        Check.answerOf(log, 0, 0, 7, 0);
        Check.answerOf(log, 1, 0, 8, 0);
        Check.equal("cut", log.cut(), 2);
        for (int p = 0; p < 3; p++) {
            Check.equal("head behind a cut", log.head(p), 3);
        }
        Check.equal("oldest behind a cut", log.oldest(), 3);
        Check.equal("cut again", log.cut(), 0);
        Check.equal("answers go on", Check.answerOf(log, 2, 1, 0, 0), 7);
        for (int i = 0; i < 50; i++) {
            Check.quickAnswerOf(log, i % 3, 0, 50 + i, 0);
            Check.quickAnswerOf(log, (i + 1) % 3, 1, 0, 0);
            log.cut();
        }
        Check.equal("what is in behind many cuts", Check.answerOf(log, 0, 1, 0, 0), 99);
        Check.equal("place behind many cuts", log.placeOf(0), 105);
    }

    private static void promise14CutBesideCallsUnderWay() {
        HelpedLog log = new HelpedLog(QUEUE, 3);
        Check.answerOf(log, 0, 0, 7, 0);
        log.call(1, 0, 8, 0);
        Check.answerOf(log, 0, 0, 9, 0);
        Check.equal("cut beside a call before ANNOUNCE", log.cut(), 0);
        Check.equal("its head stays", log.head(1), 1);
        Check.equal("that of one without a call goes", log.head(2), 3);
        Check.finish(log, 1);
        Check.equal("cut behind it", log.cut(), 3);

        HelpedLog open = new HelpedLog(QUEUE, 2);
        Check.answerOf(open, 1, 0, 5, 0);
        Check.answerOf(open, 0, 0, 6, 0);
        open.call(1, 1, 0, 0);
        open.step(1);
        Check.equal("cut beside an announced node without a number", open.cut(), 1);
        Check.equal("that node is in use still", open.used(), 3);
        Check.equal("the head it started from is told", open.oldest(), 2);
        for (int i = 0; i < 3; i++) {
            Check.answerOf(open, 0, 2, 0, 0);
        }
        Check.equal("no other call took that node", open.used(), 6);
        Check.finish(open, 1);
        Check.equal("and it is answered", open.answer(1), 5);

        HelpedLog ahead = new HelpedLog(QUEUE, 2);
        ahead.call(0, 0, 5, 0);
        Check.steps(ahead, 0, 8);
        Check.equal("moved, not done", ahead.stage(0), 2);
        Check.equal("cut by the head of a call under way", ahead.cut(), 1);
        Check.equal("the other's head goes there", ahead.head(1), 2);
    }

    private static void promise15Peek() {
        HelpedLog log = new HelpedLog(QUEUE, 2);
        String before = Check.told(log);
        Check.equal("peek, a put", log.peek(0, 4, 0), 1);
        Check.equal("peek, the same put", log.peek(0, 4, 0), 1);
        Check.equal("what is told behind it", Check.told(log), before);
        log.call(0, 0, 4, 0);
        Check.steps(log, 0, 6);
        Check.equal("peek before NUMBER", log.peek(2, 0, 0), 0);
        log.step(0);
        Check.equal("peek behind NUMBER", log.peek(2, 0, 0), 1);
        Check.equal("peek, a take", log.peek(1, 0, 0), 4);
        Check.equal("peek, the same take", log.peek(1, 0, 0), 4);
        Check.finish(log, 0);
        log.cut();
        Check.equal("peek behind a cut", log.peek(1, 0, 0), 4);
        Check.equal("the take itself", Check.answerOf(log, 1, 1, 0, 0), 4);
        Check.equal("peek behind it", log.peek(1, 0, 0), -1);
        log.plain(0, 8, 8);
        Check.equal("peek is not of the plain one", log.peek(2, 0, 0), 0);
        for (int operation : new int[] {-1, 3, Integer.MIN_VALUE, Integer.MAX_VALUE}) {
            Check.refused("peek " + operation, log, ARGUMENT, () -> log.peek(operation, 0, 0));
        }
    }

    private static void promise16Plain() {
        HelpedLog log = new HelpedLog(STACK, 2);
        Check.answerOf(log, 0, 0, 4, 0);
        Check.equal("plain, a new object", log.plain(2, 0, 0), 0);
        Check.equal("plain, a put", log.plain(0, 5, 0), 1);
        Check.equal("plain, one more", log.plain(0, 6, 0), 2);
        String before = Check.told(log);
        Check.equal("plain, a take", log.plain(1, 0, 0), 6);
        Check.equal("what is told behind it", Check.told(log), before);
        Check.equal("the log's own", log.peek(1, 0, 0), 4);
        log.cut();
        for (int operation : new int[] {-1, 3, Integer.MIN_VALUE, Integer.MAX_VALUE}) {
            Check.refused("plain " + operation, log, ARGUMENT, () -> log.plain(operation, 0, 0));
        }
        Check.equal("plain keeps what it had", log.plain(1, 0, 0), 5);
        Check.equal("plain is empty", log.plain(1, 0, 0), -1);
        HelpedLog other = new HelpedLog(STACK, 2);
        log.plain(0, 5, 0);
        Check.equal("each log has a plain one of its own", other.plain(2, 0, 0), 0);
    }
}
