import java.util.Arrays;

/** What the tests share: answers held against those that are due, and ways to drive a log. */
final class Check {
    private static int checks = 0;
    private static int wrong = 0;

    private Check() {
    }

    static void equal(String what, Object got, Object want) {
        checks++;
        if (!want.equals(got)) {
            wrong++;
            System.out.println(what + " answered " + got + ", due is " + want);
        }
    }

    /** The call throws exactly this, and nothing that can be asked of the log is changed by it. */
    static void refused(String what, HelpedLog log, Class<?> due, Runnable call) {
        String before = told(log);
        Object thrown = "nothing";
        try {
            call.run();
        } catch (RuntimeException e) {
            thrown = e.getClass();
        }
        equal(what + " throws", thrown, due);
        equal("what is told behind " + what, told(log), before);
    }

    static void stages(String what, HelpedLog log, int p, int... due) {
        int[] got = new int[due.length];
        for (int i = 0; i < due.length; i++) {
            log.step(p);
            got[i] = log.stage(p);
        }
        equal(what, Arrays.toString(got), Arrays.toString(due));
    }

    static void steps(HelpedLog log, int p, int count) {
        for (int i = 0; i < count; i++) {
            log.step(p);
        }
    }

    /** Steps of one process until its call is done; so many of them, 1000 if it never is. */
    static int finish(HelpedLog log, int p) {
        int made = 1;
        while (made < 1000 && log.step(p) != HelpedLog.DONE) {
            made++;
        }
        return made;
    }

    static int answerOf(HelpedLog log, int p, int operation, int a, int b) {
        log.call(p, operation, a, b);
        finish(log, p);
        return log.answer(p);
    }

    /** All that can be asked without a change. */
    static String told(HelpedLog log) {
        StringBuilder text = new StringBuilder();
        for (int p = 0; p < processes(log); p++) {
            text.append(log.stage(p)).append(' ').append(log.head(p)).append(' ');
            text.append(log.done(p)).append(' ').append(log.placeOf(p)).append(' ');
            text.append(log.done(p) > 0 ? log.answer(p) : 0).append("; ");
        }
        text.append(log.end()).append(' ').append(log.oldest()).append(' ').append(log.used());
        for (int number = log.oldest(); number <= log.end(); number++) {
            for (int what = 0; what < 4; what++) {
                text.append(' ').append(log.node(number, what));
            }
        }
        for (int a = 0; a < 8; a++) {
            text.append(' ').append(log.peek(1, a, 0));
        }
        return text.append(' ').append(log.peek(2, 0, 0)).toString();
    }

    static int processes(HelpedLog log) {
        int n = 0;
        try {
            for (; n < 100; n++) {
                log.stage(n);
            }
        } catch (IndexOutOfBoundsException e) {
            return n;
        }
        return n;
    }

    static void report(String name) {
        System.out.println(name + ": " + checks + " checks, " + wrong + " wrong");
        if (wrong != 0) {
            System.exit(1);
        }
    }
}
