import java.io.IOException;
import java.lang.reflect.InvocationTargetException;
import java.lang.reflect.Method;
import java.nio.file.Files;
import java.nio.file.Path;
import java.util.List;
import java.util.TreeSet;
import java.util.regex.Matcher;
import java.util.regex.Pattern;
import java.util.stream.Stream;

/** README.md says what is so: its calls answer as it tells, and it names all calls and all tests. */
final class ReadmeTest {

    private static final Path README = Path.of("README.md");
    private static final Path TESTS = Path.of("src/test/java");
    private static final int CALLS_IN_EXAMPLE_LEAST = 25;

    // A call of the example, and what its comment begins with: a text, an exception, or a number or truth.
    private static final Pattern EXAMPLE = Pattern.compile(
            "x\\.(\\w+)\\((.*?)\\); +// (?:\"(.*)\"|throws (\\w+)|([^\\s:]+)).*");
    private static final Pattern FACE = Pattern.compile("    public \\w+ (\\w+)\\((.*?)\\).*;");
    private static final Pattern TEST_NAMED = Pattern.compile("\\b[A-Z]\\w*Test\\b");

    private ReadmeTest() {
    }

    public static void main(String[] args) {
        Check.test("the calls of the example answer as it says", ReadmeTest::example);
        Check.test("every call of the face is named", ReadmeTest::calls);
        Check.test("every test that .ci/run runs is named, and no other", ReadmeTest::tests);
        Check.test("it says how the tests are run, and on what", ReadmeTest::running);
        Check.end();
    }

    private static void example() {
        Cursorlist x = new Cursorlist();
        int tried = 0;
        for (String line : Check.linesOf(README)) {
            Matcher call = EXAMPLE.matcher(line);
            if (call.matches()) {
                String got = outcomeOf(x, call.group(1), call.group(2));
                String want = wantedBy(call);
                if (!got.equals(want)) {
                    Check.tellWrong(line + "\n" + got + ", the page says " + want);
                }
                tried++;
            } else if (line.startsWith("x.")) {
                Check.tellWrong("not understood: " + line);
            }
        }
        Check.due(tried >= CALLS_IN_EXAMPLE_LEAST, true);
    }

    private static String wantedBy(Matcher call) {
        if (call.group(4) != null) {
            return "throws " + call.group(4);
        }
        return "answers " + (call.group(3) != null ? call.group(3) : call.group(5));
    }

    private static String outcomeOf(Cursorlist x, String name, String told) {
        for (Method method : Cursorlist.class.getMethods()) {
            if (method.getName().equals(name)) {
                return Check.outcomeOf(() -> answerOf(method, x, told));
            }
        }
        return "there is no call " + name;
    }

    private static Object answerOf(Method method, Cursorlist x, String told) {
        String[] words = told.isEmpty() ? new String[0] : told.split(", ");
        Object[] arguments = new Object[words.length];
        for (int i = 0; i < words.length; i++) {
            boolean isTruth = words[i].equals("true") || words[i].equals("false");
            arguments[i] = isTruth ? (Object) Boolean.valueOf(words[i]) : (Object) Integer.valueOf(words[i]);
        }
        try {
            return method.invoke(x, arguments);
        } catch (InvocationTargetException e) {
            throw (RuntimeException) e.getCause();
        } catch (IllegalAccessException e) {
            throw new IllegalStateException(e);
        }
    }

    private static void calls() {
        String page = String.join("\n", Check.linesOf(README));
        int named = 0;
        for (String line : Check.linesOf(Check.DOCUMENT)) {
            Matcher method = FACE.matcher(line);
            if (method.matches()) {
                String call = method.group(1) + "(" + method.group(2).replaceAll("(int|boolean) ", "") + ")";
                if (!page.contains("`" + call + "`")) {
                    Check.tellWrong("the page does not name " + call);
                }
                named++;
            }
        }
        Check.due(named, 50);
    }

    private static void tests() {
        TreeSet<String> there = new TreeSet<>();
        for (Path file : filesIn(TESTS)) {
            String name = file.getFileName().toString().replace(".java", "");
            if (name.endsWith("Test")) {
                there.add(name);
            }
        }
        TreeSet<String> named = new TreeSet<>();
        for (String line : Check.linesOf(README)) {
            Matcher test = TEST_NAMED.matcher(line);
            while (line.startsWith("| ") && test.find()) {
                named.add(test.group());
            }
        }
        Check.due(named.toString(), there.toString());
    }

    private static void running() {
        String page = String.join("\n", Check.linesOf(README));
        String[] due = {
            "## How to use it", "## How to run its tests", "\n    bash .ci/run\n", "src/main/java/Cursorlist.java",
            "src/test/java", "../shared/tests"
        };
        for (String each : due) {
            if (!page.contains(each)) {
                Check.tellWrong("the page does not say " + each);
            }
        }
        Check.due(Files.exists(Path.of(".ci/run")), true);
    }

    private static List<Path> filesIn(Path folder) {
        try (Stream<Path> files = Files.list(folder)) {
            return files.toList();
        } catch (IOException e) {
            throw new IllegalStateException("can not read " + folder, e);
        }
    }
}
