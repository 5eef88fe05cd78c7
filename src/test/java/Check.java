import java.util.Arrays;
import java.util.function.Consumer;
import java.util.function.Supplier;

/**
 * What the tests share: answers held against those that are due, and ways to drive a log. Nothing
 * is promised of an object behind its 512th call, so a test makes a new one rather than go there.
 */
final class Check {
    private static int tests = 0;
    private static int checks = 0;
    private static int wrong = 0;
    private static String about = "";

    private Check() {
    }

    /** A test of one sentence of the document, which is told with each fault that is found. */
    static void test(String sentence, Runnable body) {
        tests++;
        about = "\"" + sentence + "\": ";
        try {
            body.run();
        } catch (RuntimeException e) {
            fault("the test ended by " + e);
        }
        about = "";
    }

    static void equal(String what, Object got, Object want) {
        checks++;
        if (!want.equals(got)) {
            fault(what + " answered " + got + ", due is " + want);
        }
    }

    private static void fault(String what) {
        wrong++;
        System.out.println(about + what);
    }

    /** The call throws exactly this, and nothing that can be asked of the log is changed by it. */
    static void refused(String what, HelpedLog log, Class<?> due, Runnable call) {
        String before = told(log);
        equal(what + " throws", thrownBy(call), due);
        equal("what is told behind " + what, told(log), before);
    }

    /**
     * The call throws exactly this, and the log is told, goes on and ends as one does that was made
     * in the same way and never had the call.
     */
    static void refusedOf(String what, Supplier<HelpedLog> made, Class<?> due,
            Consumer<HelpedLog> call) {
        HelpedLog log = made.get();
        HelpedLog twin = made.get();
        equal(what + " throws", thrownBy(() -> call.accept(log)), due);
        same("behind " + what, log, twin);
    }

    /** Two logs are told alike, now and when all that is under way has gone on. */
    static void same(String what, HelpedLog log, HelpedLog other) {
        equal("what is told " + what, told(log), told(other));
        equal("how it goes on " + what, log.run(9, 900), other.run(9, 900));
        equal("plain " + what, plainTold(log), plainTold(other));
        equal("what a cut frees then " + what, log.cut(), other.cut());
        equal("what is told then " + what, told(log), told(other));
    }

    static Object thrownBy(Runnable call) {
        try {
            call.run();
        } catch (RuntimeException e) {
            return e.getClass();
        }
        return "nothing";
    }

    static void stages(String what, HelpedLog log, int p, int... due) {
        int[] got = new int[due.length];
        for (int i = 0; i < due.length; i++) {
            log.step(p);
            got[i] = log.stage(p);
        }
        equal(what, Arrays.toString(got), Arrays.toString(due));
    }

    static void steps(HelpedLog log, int p, int count) {
        for (int i = 0; i < count; i++) {
            log.step(p);
        }
    }

    /** A call of p and so many steps of it. */
    static void begin(HelpedLog log, int p, int operation, int a, int steps) {
        log.call(p, operation, a, 0);
        steps(log, p, steps);
    }

    /** Steps of one process until its call is done; so many of them, 100 if it never is. */
    static int finish(HelpedLog log, int p) {
        int made = 1;
        while (made < 100 && log.step(p) != HelpedLog.DONE) {
            made++;
        }
        return made;
    }

    static int answerOf(HelpedLog log, int p, int operation, int a, int b) {
        log.call(p, operation, a, b);
        finish(log, p);
        return log.answer(p);
    }

    /** The same in few calls of the log, by a run: for when no other has a call under way. */
    static int quickAnswerOf(HelpedLog log, int p, int operation, int a, int b) {
        log.call(p, operation, a, b);
        log.run(1, 200);
        return log.answer(p);
    }

    /** So many calls of p that only look, each of which leaves one node more in use. */
    static void fill(HelpedLog log, int p, int calls) {
        for (int i = 0; i < calls; i++) {
            quickAnswerOf(log, p, 2, 0, 0);
        }
    }

    /** Rows of an operation, a, b and the answer due: of a call, of peek before it and of plain. */
    static void answers(HelpedLog log, int[]... rows) {
        for (int i = 0; i < rows.length; i++) {
            int[] row = rows[i];
            String which = "row " + i + " " + Arrays.toString(row);
            equal(which + " peeked", log.peek(row[0], row[1], row[2]), row[3]);
            equal(which + " called", quickAnswerOf(log, 0, row[0], row[1], row[2]), row[3]);
            equal(which + " plain", log.plain(row[0], row[1], row[2]), row[3]);
            if (i % 8 == 7) {
                log.cut();
            }
        }
    }

    static int[] row(int operation, int a, int b, int due) {
        return new int[] {operation, a, b, due};
    }

    /** All that can be asked without a change. */
    static String told(HelpedLog log) {
        StringBuilder text = new StringBuilder();
        for (int p = 0; p < processes(log); p++) {
            text.append(log.stage(p)).append(' ').append(log.head(p)).append(' ');
            text.append(log.done(p)).append(' ').append(log.placeOf(p)).append(' ');
            text.append(log.done(p) > 0 ? log.answer(p) : 0).append("; ");
        }
        text.append(log.end()).append(' ').append(log.oldest()).append(' ').append(log.used());
        for (int number = log.oldest(); number <= log.end(); number++) {
            for (int what = 0; what < 4; what++) {
                text.append(' ').append(log.node(number, what));
            }
        }
        for (int a = 0; a < 8; a++) {
            text.append(' ').append(log.peek(1, a, 0));
        }
        return text.append(' ').append(log.peek(2, 0, 0)).toString();
    }

    /** What plain's object holds, as far as it tells; a queue or a stack is empty behind it. */
    private static String plainTold(HelpedLog log) {
        StringBuilder text = new StringBuilder();
        text.append(log.plain(2, 0, 0));
        for (int a = 0; a < 8; a++) {
            text.append(' ').append(log.plain(1, a, 0));
        }
        return text.toString();
    }

    static int processes(HelpedLog log) {
        int n = 0;
        try {
            for (; n < 100; n++) {
                log.stage(n);
            }
        } catch (IndexOutOfBoundsException e) {
            return n;
        }
        return n;
    }

    static void report(String name) {
        String counted = tests > 0 ? tests + " tests, " + checks : "" + checks;
        System.out.println(name + ": " + counted + " checks, " + wrong + " wrong");
        if (wrong != 0) {
            System.exit(1);
        }
    }
}
