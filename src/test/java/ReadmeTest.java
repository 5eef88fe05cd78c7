import java.io.IOException;
import java.lang.reflect.Field;
import java.lang.reflect.Method;
import java.lang.reflect.Modifier;
import java.nio.file.Files;
import java.nio.file.Path;
import java.util.ArrayList;
import java.util.List;

/** What README.md tells of the class: its example, and each member of the face. */
public final class ReadmeTest {
    public static void main(String[] args) throws IOException {
        String readme = Files.readString(Path.of("README.md"));
        String here = Files.readString(Path.of("src", "test", "java", "ReadmeTest.java"));
        Check.test("the example", ReadmeTest::example);
        Check.test("the example is the one that is run here", () ->
                Check.equal("lines", codeOf(block(readme)), codeOf(body(here))));
        Check.test("each member of the face is told", () -> members(readme));
        Check.test("the command that runs the tests", () ->
                Check.equal("told", readme.contains("\n    .ci/run\n"), true));
        Check.report("ReadmeTest");
    }

    private static void example() {
        // Behind here the lines are README.md's own, up to the first check.
        HelpedLog log = new HelpedLog(0, 2);
        log.call(0, 0, 7, 0);
        int told = log.step(0);
        log.call(1, 1, 0, 0);
        while (log.step(1) != HelpedLog.DONE) { }
        int taken = log.answer(1);
        int place = log.placeOf(1);
        int whose = log.node(2, 0);
        int stage = log.stage(0);
        int head = log.head(0);
        int ahead = log.peek(2, 0, 0);
        int dones = log.run(42, 100);
        int many = log.answer(0);
        int calls = log.done(0);
        int end = log.end();
        int used = log.used();
        int freed = log.cut();
        int oldest = log.oldest();
        int apart = log.plain(0, 5, 0);
        Check.equal("told", told, HelpedLog.GOES_ON);
        Check.equal("taken", taken, 7);
        Check.equal("place", place, 3);
        Check.equal("whose", whose, 0);
        Check.equal("stage", stage, 1);
        Check.equal("head", head, 1);
        Check.equal("ahead", ahead, 0);
        Check.equal("dones", dones, 1);
        Check.equal("many", many, 1);
        Check.equal("calls", calls, 1);
        Check.equal("end", end, 3);
        Check.equal("used", used, 3);
        Check.equal("freed", freed, 2);
        Check.equal("oldest", oldest, 3);
        Check.equal("apart", apart, 1);
    }

    private static String block(String readme) {
        int from = readme.indexOf("```java\n") + 8;
        return readme.substring(from, readme.indexOf("```\n", from));
    }

    private static String body(String source) {
        int from = source.indexOf("        HelpedLog log = new HelpedLog(");
        return source.substring(from, source.indexOf("        Check.equal(", from));
    }

    private static List<String> codeOf(String lines) {
        List<String> code = new ArrayList<>();
        for (String line : lines.split("\n")) {
            code.add(line.replaceAll("//.*", "").trim());
        }
        return code;
    }

    private static void members(String readme) {
        for (Method method : HelpedLog.class.getDeclaredMethods()) {
            if (Modifier.isPublic(method.getModifiers())) {
                Check.equal(method.getName() + " is told",
                        readme.contains("| `" + method.getName() + "("), true);
            }
        }
        for (Field field : HelpedLog.class.getFields()) {
            Check.equal(field.getName() + " is told",
                    readme.contains("`" + field.getName() + "` ("), true);
        }
        Check.equal("the constructor is told", readme.contains("`new HelpedLog(kind, n)`"), true);
    }
}
