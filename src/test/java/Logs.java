import java.util.List;
import java.util.function.ObjIntConsumer;
import java.util.function.Supplier;

/** Logs in states that the tests of edges start from, and the arguments that are always refused. */
final class Logs {
    static final int[] NO_OPERATIONS = {-1, 3, -2, 4, Integer.MIN_VALUE, Integer.MAX_VALUE};

    private static final Class<?> INDEX = IndexOutOfBoundsException.class;

    private static final int QUEUE = 0;
    private static final int STACK = 1;
    private static final int TABLE = 2;
    private static final int BANK = 3;

    private Logs() {
    }

    /** Logs in which process 0 has no call under way, with and without others that have one. */
    static List<Supplier<HelpedLog>> states() {
        return List.of(
                () -> new HelpedLog(QUEUE, 2),
                () -> {
                    HelpedLog log = new HelpedLog(STACK, 3);
                    Check.quickAnswerOf(log, 0, 0, 5, 0);
                    log.plain(0, 6, 0);
                    Check.begin(log, 2, 0, 7, 1);
                    return log;
                },
                () -> {
                    HelpedLog log = new HelpedLog(BANK, 2);
                    Check.quickAnswerOf(log, 0, 0, 1, 2);
                    log.plain(0, 0, 1);
                    Check.begin(log, 1, 2, 3, 7);
                    log.cut();
                    return log;
                });
    }

    /** Process 0 has a node with the number 2 and made no step but ANNOUNCE; process 1 is done. */
    static HelpedLog helped() {
        HelpedLog log = new HelpedLog(QUEUE, 2);
        Check.begin(log, 0, 0, 5, 1);
        Check.answerOf(log, 1, 0, 6, 0);
        return log;
    }

    /** Each of n processes has a call under way, with ANNOUNCE next. */
    static HelpedLog called(int n) {
        HelpedLog log = new HelpedLog(TABLE, n);
        for (int p = 0; p < n; p++) {
            log.call(p, 0, p, p + 1);
        }
        return log;
    }

    static void noSuchProcess(ObjIntConsumer<HelpedLog> call) {
        for (int n = 1; n <= 5; n++) {
            int held = n;
            for (int p : new int[] {-1, -2, n, n + 1, 5, Integer.MIN_VALUE, Integer.MAX_VALUE}) {
                Check.refusedOf("process " + p + " of " + n, () -> called(held), INDEX,
                        log -> call.accept(log, p));
                Check.refusedOf("process " + p + " of " + n + " without calls",
                        () -> new HelpedLog(QUEUE, held), INDEX, log -> call.accept(log, p));
            }
        }
    }
}
