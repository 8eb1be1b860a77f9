import java.io.File;
import java.io.IOException;
import java.lang.reflect.Method;
import java.lang.reflect.Modifier;
import java.nio.file.Files;
import java.nio.file.Path;
import java.util.Set;
import java.util.TreeSet;
import java.util.regex.Matcher;
import java.util.regex.Pattern;

/** README.md: each call that it shows answers what stands behind it, and what it says of the tests is so. */
public final class ReadmeTest {
    private static final Due due = new Due();
    private static final Path PAGE = Path.of("README.md");
    private static final Path SOURCE = Path.of("src/main/java/OpenWhileItRains.java");
    private static final String BUILT = System.getProperty("java.class.path");

    /** A call, perhaps kept under a name, and behind it "// the answer" or "// the answer: what it tells". */
    private static final Pattern CALL =
        Pattern.compile("\\s*(?:int (\\w+) = )?(x\\.(\\w+)\\(.*\\));\\s+// ([^:]+?)(?:: .*)?");

    public static void main(String[] args) throws IOException, InterruptedException, ReflectiveOperationException {
        String page = Files.readString(PAGE);
        Set<String> shown = new TreeSet<>();
        run(useOf(page, shown));
        due.is("calls of the face that are shown: " + shown, shown.equals(face()) ? 1 : 0, 1);
        numbers(page);
        imports(page);
        tests(page);
        due.end();
    }

    /** The page's Java as one method, in which each call is held against its answer. */
    private static String useOf(String page, Set<String> shown) {
        StringBuilder use = new StringBuilder("final class ReadmeUse {\n    static void all(Due due) {\n");
        Matcher block = Pattern.compile("(?ms)^```java\n(.*?)^```$").matcher(page);
        while (block.find()) {
            for (String line : block.group(1).split("\n")) {
                use.append(checked(line, shown)).append('\n');
            }
        }
        return use.append("    }\n}\n").toString();
    }

    /** The line, its call held against its answer, if it shows one. */
    private static String checked(String line, Set<String> shown) {
        Matcher call = CALL.matcher(line);
        if (!call.matches()) {
            due.is("a call of which no answer is shown stands in: " + line, line.contains("x.") ? 1 : 0, 0);
            return line;
        }
        shown.add(call.group(3));
        String asked = call.group(2);
        String held = "due.is(\"" + asked + "\", ";
        return call.group(1) == null
            ? held + asked + ", " + call.group(4) + ");"
            : line + "\n" + held + call.group(1) + ", " + call.group(4) + ");";
    }

    private static void run(String use) throws IOException, InterruptedException, ReflectiveOperationException {
        Path source = Path.of(BUILT, "ReadmeUse.java");
        Files.writeString(source, use);
        Process javac = new ProcessBuilder("javac", "-cp", BUILT, "-d", BUILT, source.toString()).inheritIO().start();
        due.is("what the page shows is Java", javac.waitFor(), 0);
        due.end();
        Method all = Class.forName("ReadmeUse").getDeclaredMethod("all", Due.class);
        all.invoke(null, due);
    }

    private static Set<String> face() {
        Set<String> face = new TreeSet<>();
        for (Method method : OpenWhileItRains.class.getDeclaredMethods()) {
            if (Modifier.isPublic(method.getModifiers())) {
                face.add(method.getName());
            }
        }
        return face;
    }

    /** The constants and how long an object is used. */
    private static void numbers(String page) {
        says(page, "`BAD` (" + OpenWhileItRains.BAD + ")");
        says(page, "`STATE` (" + OpenWhileItRains.STATE + ")");
        says(page, "`FULL` (" + OpenWhileItRains.FULL + ")");
        says(page, "`NO` (" + OpenWhileItRains.NO + ")");
        says(page, "at most " + Run.MOST_CALLS + " calls");
    }

    private static void imports(String page) throws IOException {
        Matcher imported = Pattern.compile("(?m)^import (.*);$").matcher(Files.readString(SOURCE));
        while (imported.find()) {
            says(page, "it imports `" + imported.group(1) + "` and nothing");
        }
    }

    private static void says(String page, String words) {
        due.is("the page says: " + words, page.contains(words) ? 1 : 0, 1);
    }

    private static void tests(String page) {
        Set<String> there = new TreeSet<>();
        for (String file : new File("src/test/java").list()) {
            if (file.endsWith("Test.java")) {
                there.add(file.substring(0, file.length() - ".java".length()));
            }
        }
        Set<String> told = new TreeSet<>();
        Matcher row = Pattern.compile("(?m)^\\| `(\\w+Test)` \\|").matcher(page);
        while (row.find()) {
            told.add(row.group(1));
        }
        due.is("the tests " + there + " are those that the page tells: " + told, there.equals(told) ? 1 : 0, 1);
        says(page, "\n.ci/run\n");
        due.is(".ci/run can be run", Files.isExecutable(Path.of(".ci/run")) ? 1 : 0, 1);
        says(page, "\njava -cp " + BUILT.replace("ReadmeTest", "RandomRunsTest") + " RandomRunsTest ");
    }
}
