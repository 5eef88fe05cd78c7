import java.util.ArrayList;
import java.util.List;

/**
 * The document's first sentence, part by part, on schedules that are gone through one after the
 * other. What is due is read from the log itself and from plain of a new object, not from a model.
 */
public final class OpeningTest {
    private static final int DONE = HelpedLog.DONE;

    public static void main(String[] args) {
        Check.test("shared by processes of which any may be stopped anywhere",
                OpeningTest::oneIsStopped);
        Check.test("any may be stopped anywhere (all but one)", OpeningTest::allButOneAreStopped);
        Check.test("what they call is announced, threaded by whoever comes by",
                OpeningTest::threadedByWhoeverComesBy);
        Check.test("threaded on one log", OpeningTest::threadedOnOneLog);
        Check.test("each place of which is settled once", OpeningTest::settledOnce);
        Check.test("answered by going along the log", OpeningTest::answeredAlongTheLog);
        Check.test("answered by going along the log (cut on the way)",
                OpeningTest::answeredBehindCuts);
        Check.report("OpeningTest");
    }

    private static void oneIsStopped() {
        for (int n = 2; n <= 5; n++) {
            for (int stopped = 0; stopped < n; stopped++) {
                for (int steps = 0; steps < 8 + n; steps++) {
                    Played log = new Played(steps % 4, n);
                    log.goOn(stopped, steps);
                    for (int i = 1; i < 2 * n; i++) {
                        log.finish((stopped + 1 + i % (n - 1)) % n);
                    }
                    log.finish(stopped);
                    log.answersAreDue();
                }
            }
        }
    }

    private static void allButOneAreStopped() {
        for (int first = 0; first <= 10; first++) {
            for (int second = 0; second <= 10; second++) {
                for (int lone = 0; lone < 3; lone++) {
                    Played log = new Played((first + second) % 4, 3);
                    log.goOn((lone + 1) % 3, first);
                    log.goOn((lone + 2) % 3, second);
                    for (int i = 0; i < 4; i++) {
                        log.finish(lone);
                    }
                    log.finish((lone + 2) % 3);
                    log.finish((lone + 1) % 3);
                    log.answersAreDue();
                }
            }
        }
    }

    /** A process that has announced and stops finds its call on the log, whoever else goes on. */
    private static void threadedByWhoeverComesBy() {
        for (int n = 2; n <= 5; n++) {
            for (int stopped = 0; stopped < n; stopped++) {
                for (int other = 0; other < n; other++) {
                    if (other != stopped) {
                        threadedBy(n, stopped, other);
                    }
                }
            }
        }
    }

    private static void threadedBy(int n, int stopped, int other) {
        for (int steps = 1; steps < 8 + n; steps++) {
            HelpedLog log = new HelpedLog(0, n);
            Check.begin(log, stopped, 0, 777, steps);
            // Among n places there is one that is the turn of the process that stopped.
            for (int i = 0; i < n; i++) {
                Check.answerOf(log, other, 2, 0, 0);
            }
            int found = 0;
            for (int place = 2; place <= log.end(); place++) {
                found += log.node(place, 2) == 777 ? 1 : 0;
            }
            Check.equal("places of process " + stopped + " of " + n + " behind " + steps
                    + " steps, with process " + other + " going on", found, 1);
            Check.equal("done", log.done(stopped), 0);
        }
    }

    /** Every number up to the end is told, and every call has one of them, its own. */
    private static void threadedOnOneLog() {
        for (int s = 0; s <= 13; s++) {
            for (int t = 0; t <= 13; t++) {
                Played log = new Played(0, 2);
                log.goOn(0, s);
                log.goOn(1, t);
                log.finish(0);
                log.finish(1);
                log.finish(0);
                List<Integer> told = log.told();
                Check.equal("places", told.size(), log.made - 1);
                for (int call = 1; call < log.made; call++) {
                    Check.equal("call " + call + " is on the log", told.contains(call), true);
                }
            }
        }
    }

    private static void settledOnce() {
        for (int s = 0; s <= 13; s++) {
            for (int t = 0; t <= 13; t++) {
                for (int u = 0; u <= 13; u++) {
                    Played log = new Played(0, 2);
                    log.watched = true;
                    log.goOn(0, s);
                    log.goOn(1, t);
                    log.goOn(0, u);
                    log.finish(1);
                    log.finish(0);
                }
            }
        }
    }

    private static void answeredAlongTheLog() {
        for (int s = 0; s <= 13; s++) {
            for (int t = 0; t <= 13; t++) {
                for (int u = 0; u <= 13; u++) {
                    Played log = new Played((s + t + u) % 4, 2);
                    log.goOn(0, s);
                    log.goOn(1, t);
                    log.goOn(0, u);
                    log.finish(1);
                    log.finish(0);
                    log.answersAreDue();
                }
            }
        }
    }

    private static void answeredBehindCuts() {
        for (int s = 0; s <= 14; s++) {
            for (int t = 0; t <= 14; t++) {
                Played log = new Played((s + t) % 4, 3);
                log.finish(2);
                log.goOn(0, s);
                log.cut();
                log.goOn(1, t);
                log.cut();
                log.finish(2);
                log.cut();
                log.finish(0);
                log.cut();
                log.finish(1);
                log.answersAreDue();
            }
        }
    }

    /** A log whose processes always have a call to make, with what it has told on the way. */
    private static final class Played {
        final HelpedLog log;
        final int kind;
        boolean watched = false;
        /** The next call's a: each call has one of its own. */
        int made = 1;
        /** The calls of places 2, 3, .. as they were told first: operation, a, b. */
        private final List<int[]> places = new ArrayList<>();
        /** A row for each call that was done: its place and its answer. */
        private final List<int[]> answers = new ArrayList<>();

        Played(int kind, int n) {
            this.kind = kind;
            log = new HelpedLog(kind, n);
        }

        void goOn(int p, int steps) {
            for (int i = 0; i < steps; i++) {
                step(p);
            }
        }

        /** Steps of p alone until its call is done, far fewer than 100 wherever others stopped. */
        void finish(int p) {
            int steps = 1;
            while (steps < 100 && step(p) != DONE) {
                steps++;
            }
            Check.equal("process " + p + " is done in fewer than 100 steps", steps < 100, true);
        }

        void cut() {
            read();
            log.cut();
        }

        private int step(int p) {
            if (log.stage(p) == HelpedLog.NONE) {
                log.call(p, made % 4 == 3 ? 1 : made % 4 == 2 ? 2 : 0, made, 5 * made);
                made++;
            }
            int told = log.step(p);
            if (told == DONE) {
                answers.add(new int[] {log.placeOf(p), log.answer(p)});
            }
            if (watched) {
                watch();
            }
            return told;
        }

        private void watch() {
            for (int i = 0; i < places.size(); i++) {
                Check.equal("place " + (i + 2), log.node(i + 2, 2), places.get(i)[1]);
            }
            read();
        }

        private void read() {
            for (int place = places.size() + 2; place <= log.end(); place++) {
                places.add(new int[] {log.node(place, 1), log.node(place, 2), log.node(place, 3)});
            }
        }

        List<Integer> told() {
            read();
            List<Integer> told = new ArrayList<>();
            for (int[] call : places) {
                told.add(call[1]);
            }
            return told;
        }

        /** All calls of the log one after the other, on an object that is nobody else's. */
        void answersAreDue() {
            read();
            HelpedLog alone = new HelpedLog(kind, 1);
            int[] due = new int[places.size()];
            for (int i = 0; i < due.length; i++) {
                due[i] = alone.plain(places.get(i)[0], places.get(i)[1], places.get(i)[2]);
            }
            for (int[] answer : answers) {
                Check.equal("the call at place " + answer[0], answer[1], due[answer[0] - 2]);
            }
            Check.equal("a call behind all", log.peek(1, 1, 0), alone.plain(1, 1, 0));
        }
    }
}
