import java.lang.reflect.InvocationTargetException;
import java.lang.reflect.Method;
import java.util.Arrays;
import java.util.HashMap;
import java.util.Map;
import java.util.Random;

/** Long runs of calls, the same ones on a HelpedLog and on the Model, with the same answers due. */
public final class ModelTest {
    private static final int RUNS = 2100;
    private static final int CALLS = 512;
    private static final String[] ASKED = {
        "done", "answer", "placeOf", "end", "oldest", "node", "stage", "head", "used", "peek", "plain"
    };

    public static void main(String[] args) throws IllegalAccessException {
        Map<String, Method> ofLog = methods(HelpedLog.class);
        Map<String, Method> ofModel = methods(Model.class);
        for (int run = 0; run < RUNS; run++) {
            compare(run, ofLog, ofModel);
        }
        Check.report("ModelTest");
    }

    private static void compare(int run, Map<String, Method> ofLog, Map<String, Method> ofModel)
            throws IllegalAccessException {
        Random random = new Random(run);
        // By the run's number: the first draws of neighbouring seeds are nearly the same.
        int kind = run % 6 - 1;
        int n = run / 6 % 7;
        HelpedLog log = new HelpedLog(kind, n);
        Model model = new Model(kind, n);
        // How often runs of steps and cuts come makes logs long or short and pools full or not.
        int runs = run / 42 % 12;
        int cuts = run / 42 % 5;
        for (int i = 0; i < CALLS; i++) {
            String name = drawName(random, runs, cuts);
            Object[] arguments = drawArguments(random, name, model);
            Object got = answer(ofLog.get(name), log, arguments);
            Object want = answer(ofModel.get(name), model, arguments);
            Check.equal("run " + run + ", call " + i + ": " + name + Arrays.toString(arguments),
                    got, want);
            if (!got.equals(want)) {
                return;
            }
        }
    }

    private static Map<String, Method> methods(Class<?> type) {
        Map<String, Method> found = new HashMap<>();
        for (Method method : type.getDeclaredMethods()) {
            found.put(method.getName(), method);
        }
        return found;
    }

    private static Object answer(Method method, Object target, Object[] arguments)
            throws IllegalAccessException {
        try {
            Object answer = method.invoke(target, arguments);
            return answer == null ? "nothing" : answer;
        } catch (InvocationTargetException e) {
            return e.getCause().getClass();
        }
    }

    private static String drawName(Random random, int runs, int cuts) {
        int pick = random.nextInt(60);
        if (pick < runs) {
            return "run";
        }
        if (pick < runs + cuts) {
            return "cut";
        }
        if (pick < 22) {
            return "call";
        }
        return pick < 44 ? "step" : ASKED[random.nextInt(ASKED.length)];
    }

    /** Mostly right arguments: a run of wrong ones would show little. */
    private static Object[] drawArguments(Random random, String name, Model model) {
        int p = random.nextInt(30) == 0 ? random.nextInt(9) - 2 : random.nextInt(model.n);
        int operation = random.nextInt(30) == 0 ? random.nextInt(7) - 2 : random.nextInt(3);
        int a = random.nextInt(30) == 0 ? random.nextInt() : random.nextInt(12) - 2;
        int b = random.nextInt(30) == 0 ? random.nextInt() : random.nextInt(60) - 30;
        switch (name) {
            case "call":
                return new Object[] {p, operation, a, b};
            case "peek":
            case "plain":
                return new Object[] {operation, a, b};
            case "run":
                int steps = random.nextInt(20) == 0
                        ? 500 * random.nextInt(3) + random.nextInt(5) - 2 : 1 + random.nextInt(80);
                return new Object[] {random.nextInt(), steps};
            case "node":
                return new Object[] {random.nextInt(model.end() + 4) - 1, random.nextInt(6) - 1};
            case "end":
            case "oldest":
            case "used":
            case "cut":
                return new Object[0];
            default:
                return new Object[] {p};
        }
    }
}
