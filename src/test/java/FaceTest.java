import java.lang.reflect.Constructor;
import java.lang.reflect.Field;
import java.lang.reflect.Method;
import java.lang.reflect.Modifier;
import java.util.Arrays;
import java.util.Set;
import java.util.TreeSet;

/** The public face: its members and no other that could be seen from outside. */
public final class FaceTest {
    public static void main(String[] args) {
        Check.equal("the class", Modifier.toString(HelpedLog.class.getModifiers()), "public final");
        Check.equal("members", seen(), due());
        Check.equal("GOES_ON", HelpedLog.GOES_ON, 0);
        Check.equal("DONE", HelpedLog.DONE, 1);
        Check.equal("IDLE", HelpedLog.IDLE, 2);
        Check.equal("WAITS", HelpedLog.WAITS, 3);
        Check.equal("NONE", HelpedLog.NONE, -1);
        Check.report("FaceTest");
    }

    private static Set<String> seen() {
        Set<String> found = new TreeSet<>();
        for (Field field : HelpedLog.class.getDeclaredFields()) {
            if (isSeen(field.getModifiers(), field.isSynthetic())) {
                found.add(field.toString());
            }
        }
        for (Constructor<?> constructor : HelpedLog.class.getDeclaredConstructors()) {
            if (isSeen(constructor.getModifiers(), constructor.isSynthetic())) {
                found.add(constructor.toString());
            }
        }
        for (Method method : HelpedLog.class.getDeclaredMethods()) {
            if (isSeen(method.getModifiers(), method.isSynthetic())) {
                found.add(method.toString());
            }
        }
        return found;
    }

    private static boolean isSeen(int modifiers, boolean synthetic) {
        return !Modifier.isPrivate(modifiers) && !synthetic;
    }

    private static Set<String> due() {
        String index = "java.lang.IndexOutOfBoundsException";
        String argument = "java.lang.IllegalArgumentException";
        String state = "java.lang.IllegalStateException";
        String element = "java.util.NoSuchElementException";
        return new TreeSet<>(Arrays.asList(
                "public static final int HelpedLog.GOES_ON",
                "public static final int HelpedLog.DONE",
                "public static final int HelpedLog.IDLE",
                "public static final int HelpedLog.WAITS",
                "public static final int HelpedLog.NONE",
                "public HelpedLog(int,int)",
                "public void HelpedLog.call(int,int,int,int) throws "
                        + index + "," + argument + "," + state,
                "public int HelpedLog.step(int) throws " + index,
                "public int HelpedLog.run(int,int) throws " + argument,
                "public int HelpedLog.done(int) throws " + index,
                "public int HelpedLog.answer(int) throws " + index + "," + state,
                "public int HelpedLog.placeOf(int) throws " + index,
                "public int HelpedLog.end()",
                "public int HelpedLog.oldest()",
                "public int HelpedLog.node(int,int) throws " + element + "," + argument,
                "public int HelpedLog.stage(int) throws " + index,
                "public int HelpedLog.head(int) throws " + index,
                "public int HelpedLog.used()",
                "public int HelpedLog.cut()",
                "public int HelpedLog.peek(int,int,int) throws " + argument,
                "public int HelpedLog.plain(int,int,int) throws " + argument));
    }
}
