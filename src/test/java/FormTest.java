import java.io.IOException;
import java.lang.reflect.Field;
import java.lang.reflect.Method;
import java.lang.reflect.Modifier;
import java.nio.file.Files;
import java.nio.file.Path;
import java.util.ArrayList;
import java.util.List;
import java.util.Set;
import java.util.TreeSet;
import java.util.regex.Matcher;
import java.util.regex.Pattern;
import java.util.stream.Stream;

/** What can be seen of LANGUAGE.md's rules, in the class as it is compiled and in its text. */
public final class FormTest {
    private static final Path FOLDER = Path.of("src", "main", "java");
    private static final Set<String> NAMED =
            Set.of("java.util.Arrays", "java.util.ArrayList", "java.util.List",
                    "java.util.Iterator", "java.util.NoSuchElementException");
    /** Rule 4 has more of their like: one that the class comes to need is added here. */
    private static final Set<String> CALLED_STATIC =
            Set.of("Math.max", "Math.min", "Math.abs", "Math.floorMod", "Math.floorDiv",
                    "System.arraycopy", "Arrays.fill", "Arrays.copyOf", "Arrays.copyOfRange");
    private static final Set<Class<?>> CONSTANTS =
            Set.of(int.class, long.class, boolean.class, char.class, String.class, int[].class,
                    long[].class, char[].class, byte[].class);
    private static final String THROWN = "throw new (IllegalState|IllegalArgument|IndexOutOfBounds"
            + "|Arithmetic|UnsupportedOperation|NoSuchElement|Runtime)Exception\\(\"?\"?\\);";
    private static final String NEVER = "->|::|@|\\bstatic \\{|\\b(finally|synchronized|assert"
            + "|hashCode|toString|getMessage|Random|Thread|currentTimeMillis|nanoTime|\\w+Exact)\\b";

    private static final List<Class<?>> CLASSES = new ArrayList<>();

    public static void main(String[] args) throws IOException {
        String text = bare(Files.readString(FOLDER.resolve("HelpedLog.java")));
        CLASSES.add(HelpedLog.class);
        CLASSES.addAll(List.of(HelpedLog.class.getDeclaredClasses()));
        Check.test("one file", FormTest::oneFile);
        Check.test("rule 1: classes inside are private or package-visible and static",
                FormTest::classesInside);
        Check.test("rule 1: no private method bears the name of a public one",
                FormTest::namesOfPrivateMethods);
        Check.test("rules 2, 6, 13: what is never written", () ->
                Check.equal("found", found(NEVER, text), new TreeSet<>()));
        Check.test("rule 4: the library", () -> library(text));
        Check.test("rule 5: static fields are final", FormTest::staticFields);
        Check.test("rule 6: what is thrown", () ->
                Check.equal("throws", count("\\bthrow\\b", text), count(THROWN, text)));
        Check.test("rule 11: how much", () -> howMuch(text));
        Check.report("FormTest");
    }

    /** The text without its comments and without what stands in its texts. */
    private static String bare(String source) {
        return source.replaceAll("(?s)/\\*.*?\\*/", "").replaceAll("//[^\n]*", "")
                .replaceAll("\"[^\"\n]*\"", "\"\"");
    }

    private static int count(String pattern, String text) {
        return (int) Pattern.compile(pattern).matcher(text).results().count();
    }

    private static Set<String> found(String pattern, String text) {
        Set<String> found = new TreeSet<>();
        Matcher matcher = Pattern.compile(pattern).matcher(text);
        while (matcher.find()) {
            found.add(matcher.group());
        }
        return found;
    }

    private static void oneFile() {
        try (Stream<Path> files = Files.walk(FOLDER).filter(Files::isRegularFile)) {
            Check.equal("files", files.toList(), List.of(FOLDER.resolve("HelpedLog.java")));
        } catch (IOException e) {
            throw new IllegalStateException(e);
        }
    }

    private static void classesInside() {
        for (Class<?> inside : HelpedLog.class.getDeclaredClasses()) {
            int modifiers = inside.getModifiers();
            Check.equal(inside + " is static", Modifier.isStatic(modifiers), true);
            Check.equal(inside + " is seen",
                    Modifier.isPublic(modifiers) || Modifier.isProtected(modifiers), false);
        }
    }

    private static void namesOfPrivateMethods() {
        Set<String> seen = new TreeSet<>();
        for (Method method : HelpedLog.class.getMethods()) {
            seen.add(method.getName());
        }
        for (Class<?> type : CLASSES) {
            for (Method method : type.getDeclaredMethods()) {
                if (!Modifier.isPublic(method.getModifiers())) {
                    Check.equal(method + " has the name of a public one",
                            seen.contains(method.getName()), false);
                }
            }
        }
    }

    private static void library(String text) {
        for (String name : found("\\bjavax?\\.[\\w.*]*", text)) {
            Check.equal(name + " is in the list", NAMED.contains(name), true);
        }
        String calls = "(?<![\\w.])(Math|System|Arrays|Integer|Long|List)\\.\\w+";
        for (String called : found(calls, text)) {
            Check.equal(called + " is in the list", CALLED_STATIC.contains(called), true);
        }
    }

    private static void staticFields() {
        for (Class<?> type : CLASSES) {
            for (Field field : type.getDeclaredFields()) {
                if (Modifier.isStatic(field.getModifiers())) {
                    Check.equal(field + " is final", Modifier.isFinal(field.getModifiers()), true);
                    Check.equal(field + " has a type of the list",
                            CONSTANTS.contains(field.getType()), true);
                }
            }
        }
    }

    private static void howMuch(String text) {
        Check.equal("at most twelve classes", CLASSES.size() <= 12, true);
        for (Class<?> type : CLASSES) {
            int fields = 0;
            for (Field field : type.getDeclaredFields()) {
                fields += Modifier.isStatic(field.getModifiers()) ? 0 : 1;
            }
            Check.equal(type + " has at most twenty fields", fields <= 20, true);
            for (Method method : type.getDeclaredMethods()) {
                Check.equal(method + " has at most seven parameters",
                        method.getParameterCount() <= 7, true);
            }
        }
        Check.equal("the longest method has at most sixty lines", longestMethod(text) <= 60, true);
    }

    /** By the indent: a method's last line is the next brace that stands as far in as its first. */
    private static int longestMethod(String text) {
        int longest = 0;
        Matcher method = Pattern.compile("(?ms)^( {4,8})[^\\s}][^;{}]*\\([^;{}]*\\{\n.*?^\\1\\}")
                .matcher(text);
        int methods = 0;
        while (method.find()) {
            methods++;
            longest = Math.max(longest, method.group().split("\n").length);
        }
        Check.equal("methods are found", methods > 40, true);
        return longest;
    }
}
