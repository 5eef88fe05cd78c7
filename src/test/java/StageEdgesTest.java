import java.util.NoSuchElementException;

/** The edges of the POOL, of its nodes and of the STAGES, a test for each sentence of "Terms". */
public final class StageEdgesTest {
    private static final Class<?> STATE = IllegalStateException.class;
    private static final Class<?> ELEMENT = NoSuchElementException.class;

    private static final int QUEUE = 0;
    private static final int STACK = 1;
    private static final int TABLE = 2;

    private static final int GOES_ON = HelpedLog.GOES_ON;
    private static final int IDLE = HelpedLog.IDLE;
    private static final int WAITS = HelpedLog.WAITS;
    private static final int NONE = HelpedLog.NONE;

    public static void main(String[] args) {
        pool();
        lookAndAsk();
        chooseAndPropose();
        numberToFinish();
        Check.report("StageEdgesTest");
    }

    private static void pool() {
        Check.test("a POOL of 32 NODES", StageEdgesTest::thirtyTwoNodes);
        Check.test("if all nodes of the pool are in use: the stage stays",
                StageEdgesTest::stageStays);
        Check.test("the step WAITS, and no other does", StageEdgesTest::onlyAnnounceWaits);
        Check.test("a step that WAITS has none announced", StageEdgesTest::waitingIsNotHelped);
        Check.test("otherwise a node that is not in use becomes p's own",
                StageEdgesTest::oneNodeForOne);
        Check.test("a NUMBER, 0 at first (of a node used again)", StageEdgesTest::numberAtFirst);
        Check.test("a CELL, empty at first (of a node used again)", StageEdgesTest::cellAtFirst);
        Check.test("a CALL (of a node used again)", StageEdgesTest::callOfANodeUsedAgain);
        Check.test("the FIRST has no call and the number 1", StageEdgesTest::theFirst);
        Check.test("a HEAD, the FIRST at first", StageEdgesTest::headAtFirst);
        Check.test("may have a node ANNOUNCED (not before ANNOUNCE)",
                StageEdgesTest::notAnnouncedBeforeAnnounce);
    }

    private static void lookAndAsk() {
        Check.test("LOOK q + 1 is next; behind the last process: ASK", StageEdgesTest::looks);
        Check.test("BEST is p's HEAD", StageEdgesTest::bestIsTheOwnHead);
        Check.test("BEST is p's HEAD (not that of an earlier call)",
                StageEdgesTest::bestIsNotAnEarlierOne);
        Check.test("if the HEAD of process q has a greater number than BEST",
                StageEdgesTest::greatestHeadWherever);
        Check.test("the HEAD of process q, at that step", StageEdgesTest::headAtThatStep);
        Check.test("if p's own node has a number above 0, FINISH is next",
                StageEdgesTest::askBehindHelp);
        Check.test("otherwise CHOOSE (in a cell, but with the number 0)",
                StageEdgesTest::askInACellWithoutANumber);
    }

    private static void chooseAndPropose() {
        Check.test("q = k % n", StageEdgesTest::turns);
        Check.test("q = k % n, of one process", StageEdgesTest::turnsOfOne);
        Check.test("if process q has a node announced (it has a call, none announced)",
                StageEdgesTest::noneAnnounced);
        Check.test("a node announced whose number is 0 (it is 1 or more)",
                StageEdgesTest::announcedWithANumber);
        Check.test("else p's own node (that has a number since ASK)",
                StageEdgesTest::ownWithANumberSinceAsk);
        Check.test("else p's own node (with another in the cell)",
                StageEdgesTest::ownBehindAnother);
        Check.test("put into the cell of BEST, if that is empty",
                StageEdgesTest::cellKeepsTheFirst);
        Check.test("the PROPOSAL is what is in the cell then", StageEdgesTest::proposalIsTheCells);
    }

    private static void numberToFinish() {
        Check.test("the number becomes that of BEST and 1 (again, late)",
                StageEdgesTest::numberedLate);
        Check.test("p's HEAD, and BEST, is the PROPOSAL (late)", StageEdgesTest::movedLate);
        Check.test("p's HEAD is its own node", StageEdgesTest::headIsTheOwnNode);
        Check.test("and it has none announced", StageEdgesTest::noneAnnouncedBehindFinish);
        Check.test("calls with numbers 2, 3, .. up to that of its own",
                StageEdgesTest::upToItsOwn);
        Check.test("all calls, done or not", StageEdgesTest::callsUnderWayCount);
        Check.test("on an object as at first (behind a cut)", StageEdgesTest::answersBehindCuts);
    }

    private static void thirtyTwoNodes() {
        for (int n = 1; n <= 5; n++) {
            HelpedLog log = new HelpedLog(QUEUE, n);
            Check.fill(log, n - 1, 30);
            Check.equal("used, one node left", log.used(), 31);
            log.call(0, 0, 5, 0);
            Check.equal("the step for the last node", log.step(0), GOES_ON);
            Check.equal("used, none left", log.used(), 32);
            Check.finish(log, 0);
            log.call(0, 0, 6, 0);
            Check.equal("the step behind it", log.step(0), WAITS);
            Check.equal("used", log.used(), 32);
            Check.equal("end", log.end(), 32);
        }
    }

    private static HelpedLog full(int n) {
        HelpedLog log = new HelpedLog(TABLE, n);
        Check.fill(log, 0, 31);
        return log;
    }

    private static void stageStays() {
        HelpedLog log = full(2);
        log.call(1, 0, 3, 4);
        for (int i = 0; i < 3; i++) {
            Check.equal("step " + i, log.step(1), WAITS);
            Check.equal("stage", log.stage(1), 0);
        }
        Check.equal("run", log.run(3, 50), 0);
        Check.equal("stage behind a run", log.stage(1), 0);
        Check.equal("another call", Check.thrownBy(() -> log.call(1, 0, 0, 0)), STATE);
        Check.equal("head", log.head(1), 1);
        Check.equal("done", log.done(1), 0);
        HelpedLog twin = full(2);
        twin.call(1, 0, 3, 4);
        Check.equal("what is told", Check.told(log), Check.told(twin));
    }

    private static void onlyAnnounceWaits() {
        HelpedLog log = new HelpedLog(TABLE, 2);
        Check.fill(log, 0, 30);
        log.call(0, 2, 0, 0);
        log.step(0);
        Check.equal("used", log.used(), 32);
        Check.equal("step without a call", log.step(1), IDLE);
        for (int i = 0; i < 8; i++) {
            Check.equal("step " + i + " behind ANNOUNCE", log.step(0), GOES_ON);
        }
        Check.equal("the last step", log.step(0), HelpedLog.DONE);
        Check.equal("a step more", log.step(0), IDLE);
    }

    private static void waitingIsNotHelped() {
        HelpedLog log = new HelpedLog(TABLE, 2);
        Check.fill(log, 0, 30);
        log.call(0, 0, 1, 9);
        Check.begin(log, 1, 0, 2, 1);
        Check.equal("the step of process 0", log.step(0), WAITS);
        // Place 32 is the turn of process 0.
        Check.finish(log, 1);
        Check.equal("place 32 is settled for", log.node(32, 0), 1);
        Check.equal("end", log.end(), 32);
    }

    private static void oneNodeForOne() {
        HelpedLog log = new HelpedLog(TABLE, 3);
        Check.fill(log, 2, 1);
        Check.fill(log, 0, 29);
        Check.begin(log, 2, 2, 0, 1);
        Check.equal("used", log.used(), 32);
        Check.equal("a cut behind the head of process 2", log.cut(), 1);
        log.call(0, 0, 1, 5);
        log.call(1, 0, 2, 6);
        Check.equal("the step for the one node", log.step(1), GOES_ON);
        Check.equal("the step behind it", log.step(0), WAITS);
        Check.finish(log, 1);
        Check.finish(log, 2);
        Check.equal("a cut of all but the waiting one's", log.cut(), 29);
        Check.equal("its step then", log.step(0), GOES_ON);
        Check.finish(log, 0);
        Check.equal("its answer", log.answer(0), 0);
        Check.equal("the sum", log.peek(2, 0, 0), 11);
    }

    private static void numberAtFirst() {
        HelpedLog log = new HelpedLog(QUEUE, 2);
        Check.fill(log, 0, 31);
        Check.equal("a cut", log.cut(), 31);
        for (int i = 0; i < 2; i++) {
            Check.begin(log, i, 0, 7, 1);
            Check.equal("stage", log.stage(i), 1);
            Check.equal("end", log.end(), 32);
            Check.equal("oldest", log.oldest(), 32);
        }
        Check.stages("its own has no number yet", log, 1, 1, 2, 3);
    }

    private static void cellAtFirst() {
        HelpedLog log = new HelpedLog(QUEUE, 2);
        for (int round = 0; round < 40; round++) {
            int p = round % 2;
            Check.equal("a put", Check.quickAnswerOf(log, p, 0, 70 + round, 0), 1);
            Check.equal("its place", log.placeOf(p), 2 + 2 * round);
            Check.equal("a take", Check.quickAnswerOf(log, 1 - p, 1, 0, 0), 70 + round);
            Check.equal("end", log.end(), 3 + 2 * round);
            Check.equal("a cut", log.cut(), 2);
        }
    }

    private static void callOfANodeUsedAgain() {
        HelpedLog log = new HelpedLog(TABLE, 3);
        for (int round = 0; round < 34; round++) {
            int p = round % 3;
            int place = 2 + round;
            Check.quickAnswerOf(log, p, p, round, -round);
            Check.equal("process", log.node(place, 0), p);
            Check.equal("operation", log.node(place, 1), p);
            Check.equal("a", log.node(place, 2), round);
            Check.equal("b", log.node(place, 3), -round);
            Check.equal("a cut", log.cut(), 1);
        }
    }

    private static void theFirst() {
        for (int n = 1; n <= 5; n++) {
            HelpedLog log = new HelpedLog(QUEUE, n);
            Check.equal("end", log.end(), 1);
            Check.equal("oldest", log.oldest(), 1);
            for (int what = 0; what < 4; what++) {
                Check.equal("what " + what, log.node(1, what), NONE);
            }
            Check.equal("what is done behind it", log.peek(2, 0, 0), 0);
        }
    }

    private static void headAtFirst() {
        for (int n = 1; n <= 5; n++) {
            HelpedLog log = new HelpedLog(QUEUE, n);
            for (int p = 0; p < n; p++) {
                Check.equal("head of " + p, log.head(p), 1);
            }
            Check.fill(log, 0, 3);
            for (int p = 1; p < n; p++) {
                Check.equal("head of " + p + " that made no call", log.head(p), 1);
            }
        }
    }

    private static void notAnnouncedBeforeAnnounce() {
        HelpedLog log = new HelpedLog(QUEUE, 2);
        log.call(0, 0, 8, 0);
        // Place 2 is the turn of process 0.
        Check.answerOf(log, 1, 0, 9, 0);
        Check.equal("place 2 is settled for", log.node(2, 0), 1);
        Check.equal("end", log.end(), 2);
    }

    private static void looks() {
        for (int n = 1; n <= 5; n++) {
            for (int p = 0; p < n; p++) {
                HelpedLog log = new HelpedLog(QUEUE, n);
                Check.begin(log, p, 0, 5, 1);
                for (int q = 0; q < n; q++) {
                    Check.equal("stage before LOOK " + q + " of " + n, log.stage(p), 1);
                    Check.equal("LOOK " + q, log.step(p), GOES_ON);
                }
                Check.equal("stage behind the last of " + n, log.stage(p), 2);
            }
        }
    }

    /** None has come further than p: a lesser HEAD does not take the place of BEST. */
    private static void bestIsTheOwnHead() {
        for (int n = 1; n <= 5; n++) {
            for (int p = 0; p < n; p++) {
                HelpedLog log = new HelpedLog(QUEUE, n);
                Check.fill(log, p, 3);
                log.call(p, 2, 0, 0);
                Check.equal("steps with one place to go", Check.finish(log, p), 8 + n);
                Check.equal("place", log.placeOf(p), 5);
            }
        }
    }

    /** The node that process 0 had before is used again by process 1, which stops behind NUMBER. */
    private static void bestIsNotAnEarlierOne() {
        HelpedLog log = new HelpedLog(QUEUE, 2);
        Check.fill(log, 0, 1);
        Check.fill(log, 1, 1);
        Check.equal("a cut", log.cut(), 2);
        Check.fill(log, 1, 1);
        Check.begin(log, 1, 0, 5, 7);
        Check.equal("process 1 is at MOVE", log.stage(1), 6);
        Check.equal("end", log.end(), 5);
        log.call(0, 0, 6, 0);
        Check.stages("process 0 goes by place 5", log, 0,
                1, 1, 2, 3, 4, 5, 6, 2, 3, 4, 5, 6, 2, 7, NONE);
        Check.equal("its place", log.placeOf(0), 6);
    }

    private static void greatestHeadWherever() {
        for (int n = 2; n <= 5; n++) {
            for (int q = 0; q < n; q++) {
                HelpedLog log = new HelpedLog(QUEUE, n);
                for (int other = 0; other < n; other++) {
                    Check.fill(log, other, 1);
                }
                Check.fill(log, q, 2);
                int p = (q + 1) % n;
                log.call(p, 2, 0, 0);
                Check.equal("steps with the greatest at " + q, Check.finish(log, p), 8 + n);
                Check.equal("place", log.placeOf(p), n + 4);
            }
        }
    }

    private static void headAtThatStep() {
        HelpedLog late = new HelpedLog(QUEUE, 3);
        Check.begin(late, 0, 0, 5, 4);
        Check.answerOf(late, 1, 0, 6, 0);
        Check.equal("place 2 is settled for", late.node(2, 0), 1);
        Check.stages("it has looked before, and goes by place 2", late, 0,
                3, 4, 5, 6, 2, 3, 4, 5, 6, 2, 7, NONE);
        Check.equal("place", late.placeOf(0), 3);

        HelpedLog early = new HelpedLog(QUEUE, 3);
        Check.begin(early, 0, 0, 5, 2);
        Check.answerOf(early, 1, 0, 6, 0);
        Check.stages("it looks behind that", early, 0, 1, 2, 3, 4, 5, 6, 2, 7, NONE);
        Check.equal("place", early.placeOf(0), 3);
    }

    private static void askBehindHelp() {
        HelpedLog log = new HelpedLog(QUEUE, 2);
        Check.begin(log, 0, 0, 5, 3);
        Check.equal("process 0 is at ASK", log.stage(0), 2);
        Check.begin(log, 1, 0, 6, 7);
        Check.equal("process 1 has just numbered", log.stage(1), 6);
        Check.equal("place 2 is settled for", log.node(2, 0), 0);
        Check.stages("process 0 goes to FINISH", log, 0, 7, NONE);
        Check.equal("its place", log.placeOf(0), 2);
    }

    private static void askInACellWithoutANumber() {
        HelpedLog log = new HelpedLog(QUEUE, 2);
        Check.begin(log, 0, 0, 5, 3);
        Check.begin(log, 1, 0, 6, 6);
        Check.equal("process 1 is at NUMBER", log.stage(1), 5);
        Check.stages("process 0 goes to CHOOSE", log, 0, 3, 4, 5, 6, 2, 7, NONE);
        Check.equal("its place", log.placeOf(0), 2);
        Check.equal("its answer", log.answer(0), 1);
        Check.finish(log, 1);
        Check.equal("place of process 1", log.placeOf(1), 3);
        Check.equal("its answer", log.answer(1), 2);
    }

    private static void turns() {
        for (int n = 2; n <= 5; n++) {
            for (int before = 0; before < n; before++) {
                HelpedLog log = new HelpedLog(QUEUE, n);
                Check.fill(log, 0, before);
                int place = before + 2;
                int last = (place + n - 1) % n;
                for (int p = 0; p < n; p++) {
                    Check.begin(log, p, 2, 0, 1);
                }
                Check.finish(log, last);
                for (int k = place; k < place + n; k++) {
                    Check.equal("place " + k + " of " + n, log.node(k, 0), k % n);
                }
                Check.equal("end", log.end(), place + n - 1);
            }
        }
    }

    private static void turnsOfOne() {
        HelpedLog log = new HelpedLog(QUEUE, 1);
        for (int place = 2; place < 8; place++) {
            log.call(0, 2, 0, 0);
            Check.stages("place " + place, log, 0, 1, 2, 3, 4, 5, 6, 2, 7, NONE);
            Check.equal("placeOf", log.placeOf(0), place);
        }
    }

    private static void noneAnnounced() {
        HelpedLog log = new HelpedLog(QUEUE, 3);
        log.call(2, 0, 5, 0);
        Check.answerOf(log, 0, 0, 6, 0);
        Check.equal("place 2, with process 2 before ANNOUNCE", log.node(2, 0), 0);
        Check.answerOf(log, 1, 0, 7, 0);
        Check.equal("place 3, with process 0 without a call", log.node(3, 0), 1);
        Check.equal("end", log.end(), 3);
    }

    private static void announcedWithANumber() {
        HelpedLog log = new HelpedLog(QUEUE, 3);
        Check.begin(log, 2, 0, 5, 1);
        Check.answerOf(log, 0, 0, 6, 0);
        Check.equal("place 2 is settled for", log.node(2, 0), 2);
        Check.equal("place 3 is settled for", log.node(3, 0), 0);
        Check.answerOf(log, 0, 0, 7, 0);
        Check.answerOf(log, 0, 0, 8, 0);
        Check.equal("place 5, the next turn of process 2", log.node(5, 0), 0);
        Check.equal("end", log.end(), 5);
        Check.equal("what is in", log.peek(2, 0, 0), 4);
    }

    private static void ownWithANumberSinceAsk() {
        HelpedLog log = new HelpedLog(QUEUE, 2);
        Check.begin(log, 0, 0, 5, 4);
        Check.equal("process 0 is at CHOOSE", log.stage(0), 3);
        Check.equal("process 1, behind process 0", Check.answerOf(log, 1, 0, 6, 0), 2);
        Check.stages("process 0 goes by its own place", log, 0, 4, 5, 6, 2, 7, NONE);
        Check.equal("its place", log.placeOf(0), 2);
        Check.equal("its answer", log.answer(0), 1);
        Check.equal("end", log.end(), 3);
        Check.equal("what is in", log.peek(2, 0, 0), 2);
    }

    private static void ownBehindAnother() {
        HelpedLog log = new HelpedLog(QUEUE, 3);
        Check.begin(log, 0, 0, 5, 5);
        Check.equal("process 0 is at CHOOSE", log.stage(0), 3);
        Check.answerOf(log, 1, 0, 6, 0);
        Check.answerOf(log, 1, 0, 7, 0);
        Check.equal("place 3, the turn of process 0", log.node(3, 0), 0);
        Check.stages("process 0 goes by place 2", log, 0, 4, 5, 6, 2);
        Check.equal("its head then", log.head(0), 2);
        Check.stages("and is done", log, 0, 7, NONE);
        Check.equal("its place", log.placeOf(0), 3);
        Check.equal("its answer", log.answer(0), 2);
        Check.equal("end", log.end(), 4);
        Check.equal("what is in", log.peek(2, 0, 0), 3);
    }

    private static void cellKeepsTheFirst() {
        for (int winner = 0; winner < 2; winner++) {
            HelpedLog log = new HelpedLog(STACK, 3);
            Check.begin(log, 0, 0, 70, 6);
            Check.begin(log, 1, 0, 71, 6);
            Check.equal("both are at PROPOSE", log.stage(0) + log.stage(1), 8);
            log.step(winner);
            log.step(1 - winner);
            Check.equal("no number yet", Check.thrownBy(() -> log.node(2, 0)), ELEMENT);
            log.step(1 - winner);
            Check.equal("place 2 is settled for", log.node(2, 0), winner);
            log.step(winner);
            Check.equal("and stays", log.node(2, 0), winner);
            Check.finish(log, 0);
            Check.finish(log, 1);
            Check.equal("place of the first", log.placeOf(winner), 2);
            Check.equal("place of the second", log.placeOf(1 - winner), 3);
            Check.equal("what is in", log.peek(2, 0, 0), 2);
        }
    }

    /** Before PROPOSE the node that was chosen for help has found its place, and so has p's own. */
    private static void proposalIsTheCells() {
        HelpedLog log = new HelpedLog(QUEUE, 2);
        Check.begin(log, 0, 0, 5, 1);
        Check.begin(log, 1, 0, 6, 5);
        Check.equal("process 1 is at PROPOSE, with the node of 0", log.stage(1), 4);
        Check.finish(log, 0);
        Check.equal("place of process 0", log.placeOf(0), 2);
        Check.answerOf(log, 0, 0, 7, 0);
        Check.equal("place 3, the turn of process 1", log.node(3, 0), 1);
        Check.stages("process 1 goes by place 2", log, 1, 5, 6, 2, 7, NONE);
        Check.equal("its place", log.placeOf(1), 3);
        Check.equal("its answer", log.answer(1), 2);
        Check.equal("end", log.end(), 4);
        Check.equal("what is in", log.peek(2, 0, 0), 3);
    }

    private static void numberedLate() {
        HelpedLog log = new HelpedLog(STACK, 2);
        Check.begin(log, 0, 0, 5, 6);
        Check.equal("process 0 is at NUMBER", log.stage(0), 5);
        for (int i = 0; i < 4; i++) {
            Check.equal("process 1, call " + i, Check.answerOf(log, 1, 0, 60 + i, 0), 2 + i);
        }
        Check.equal("end", log.end(), 6);
        log.step(0);
        Check.equal("process 0 is at MOVE", log.stage(0), 6);
        Check.equal("end behind NUMBER", log.end(), 6);
        Check.equal("place 2 is settled for", log.node(2, 0), 0);
        Check.equal("place 6 is settled for", log.node(6, 0), 1);
        Check.equal("what is in", log.peek(2, 0, 0), 5);
        Check.finish(log, 0);
        Check.equal("its answer", log.answer(0), 1);
        Check.equal("its place", log.placeOf(0), 2);
    }

    private static void movedLate() {
        HelpedLog log = new HelpedLog(QUEUE, 3);
        Check.begin(log, 0, 0, 5, 6);
        Check.answerOf(log, 1, 0, 6, 0);
        Check.stages("the cell was settled for process 1", log, 0, 5, 6);
        Check.equal("head before MOVE", log.head(0), 1);
        Check.answerOf(log, 1, 0, 7, 0);
        Check.answerOf(log, 1, 0, 8, 0);
        Check.equal("head of process 1", log.head(1), 5);
        log.step(0);
        Check.equal("head behind MOVE", log.head(0), 2);
        Check.equal("its own place, by help", log.node(3, 0), 0);
        Check.stages("and is done", log, 0, 7, NONE);
        Check.equal("head behind FINISH", log.head(0), 3);

        HelpedLog far = new HelpedLog(QUEUE, 3);
        Check.begin(far, 0, 0, 5, 6);
        Check.answerOf(far, 1, 0, 6, 0);
        Check.stages("BEST goes with it", far, 0, 5, 6, 2, 3, 4, 5, 6, 2, 7, NONE);
        Check.equal("place behind BEST", far.placeOf(0), 3);
    }

    private static void headIsTheOwnNode() {
        HelpedLog log = new HelpedLog(QUEUE, 2);
        Check.begin(log, 0, 0, 5, 1);
        for (int i = 0; i < 3; i++) {
            Check.answerOf(log, 1, 2, 0, 0);
        }
        Check.finish(log, 0);
        Check.equal("head of the one that was helped", log.head(0), 2);
        Check.equal("head of the other", log.head(1), 5);
        Check.equal("end", log.end(), 5);
    }

    /** The node of process 0 is used again by another, which place 4 must not be settled for. */
    private static void noneAnnouncedBehindFinish() {
        HelpedLog log = new HelpedLog(QUEUE, 4);
        Check.answerOf(log, 0, 0, 5, 0);
        Check.answerOf(log, 3, 0, 6, 0);
        Check.equal("a cut", log.cut(), 2);
        Check.begin(log, 1, 0, 7, 1);
        Check.begin(log, 2, 0, 8, 1);
        Check.answerOf(log, 3, 0, 9, 0);
        Check.equal("place 4, the turn of process 0", log.node(4, 0), 3);
        Check.equal("end", log.end(), 4);
    }

    private static void upToItsOwn() {
        HelpedLog log = new HelpedLog(TABLE, 2);
        Check.answerOf(log, 1, 0, 3, 40);
        Check.equal("end", log.end(), 2);
        // Place 3 is the turn of process 1, which makes a call and stops.
        Check.begin(log, 1, 2, 0, 1);
        Check.answerOf(log, 0, 0, 4, 50);
        Check.answerOf(log, 0, 0, 5, 60);
        Check.equal("place 3 is settled for", log.node(3, 0), 1);
        Check.equal("the sum by now", log.peek(2, 0, 0), 40 + 50 + 60);
        Check.finish(log, 1);
        Check.equal("the sum at its place", log.answer(1), 40);
        HelpedLog other = new HelpedLog(TABLE, 2);
        Check.equal("the first call of all", Check.answerOf(other, 0, 2, 0, 0), 0);
    }

    private static void callsUnderWayCount() {
        HelpedLog log = new HelpedLog(QUEUE, 2);
        Check.begin(log, 0, 0, 5, 1);
        Check.equal("behind a call that is not done", Check.answerOf(log, 1, 2, 0, 0), 1);
        Check.equal("done of process 0", log.done(0), 0);
        Check.equal("and the next", Check.answerOf(log, 1, 1, 0, 0), 5);
        Check.finish(log, 0);
        Check.equal("its answer", log.answer(0), 1);
        Check.equal("it is done once", Check.answerOf(log, 1, 2, 0, 0), 0);
    }

    private static void answersBehindCuts() {
        HelpedLog log = new HelpedLog(STACK, 2);
        for (int i = 0; i < 8; i++) {
            Check.equal("put", Check.quickAnswerOf(log, i % 2, 0, 30 + i, 0), i + 1);
            Check.equal("a cut", log.cut(), 1);
        }
        Check.begin(log, 0, 1, 0, 1);
        Check.equal("a cut beside a call", log.cut(), 0);
        // Place 10 is the turn of process 0.
        Check.equal("process 1", Check.answerOf(log, 1, 1, 0, 0), 36);
        Check.equal("a cut beside a call with a number", log.cut(), 0);
        Check.finish(log, 0);
        Check.equal("process 0", log.answer(0), 37);
    }
}
