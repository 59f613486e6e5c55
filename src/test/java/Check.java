import java.io.IOException;
import java.nio.file.Files;
import java.nio.file.Path;
import java.util.List;

/** What the tests share: comparing answers, counting tests, and making objects that are ready for a test. */
final class Check {

    static final int NONE = -1;
    static final int NOTHING = 10000;
    static final int REFUSED = -1000009;
    static final Path DOCUMENT = Path.of("../shared/DOC.md");

    private static int passed = 0;
    private static int failed = 0;
    private static int wrong = 0;

    private Check() {
    }

    interface Call {
        Object answer();
    }

    static void test(String name, Runnable body) {
        wrong = 0;
        try {
            body.run();
        } catch (RuntimeException e) {
            tellWrong("threw " + e);
            e.printStackTrace(System.out);
        }
        if (wrong == 0) {
            passed++;
        } else {
            failed++;
            System.out.println("failed: " + name);
        }
    }

    static void end() {
        System.out.println(passed + " passed, " + failed + " failed");
        if (failed != 0 || passed == 0) {
            System.exit(1);
        }
    }

    static void due(Object got, Object want) {
        boolean isDue = got instanceof Number && want instanceof Number
                ? ((Number) got).longValue() == ((Number) want).longValue()
                : want.equals(got);
        if (!isDue) {
            tellWrong("answered " + got + ", due is " + want);
        }
    }

    static void dueText(Cursorlist x, int list, String want) {
        due(x.text(list, false), want);
    }

    /** The call throws just that exception, and changes nothing. */
    static void dueThrow(Cursorlist x, Class<? extends RuntimeException> want, Call call) {
        String before = stateOf(x) + x.house(3);
        String got = outcomeOf(call);
        if (!got.equals("throws " + want.getSimpleName())) {
            tellWrong(got + ", due is throws " + want.getSimpleName());
        }
        due(stateOf(x) + x.house(3), before);
    }

    static void dueNoPlace(Cursorlist x, Call call) {
        dueThrow(x, IndexOutOfBoundsException.class, call);
    }

    static void dueBadArgument(Cursorlist x, Call call) {
        dueThrow(x, IllegalArgumentException.class, call);
    }

    static void dueBadState(Cursorlist x, Call call) {
        dueThrow(x, IllegalStateException.class, call);
    }

    /** The call tells REFUSED, which is counted once, and changes nothing else. */
    static void dueRefused(Cursorlist x, Call call) {
        String before = stateOf(x);
        int refusals = x.house(3);
        due(call.answer(), REFUSED);
        due(x.house(3), refusals + 1);
        due(stateOf(x), before);
    }

    /** The call makes stale what stands over that list, and no cursor over another one. */
    static void dueMakesStale(Cursorlist x, int list, Call call) {
        int another = (list + 1) % 4;
        x.open(0, list, 0);
        x.open(1, another, 0);
        x.open(2, list, x.size(list));
        call.answer();
        due(x.ofCursor(0, 5) + " " + x.ofCursor(1, 5) + " " + x.ofCursor(2, 5), "1 0 1");
        shutAll(x);
    }

    /** The call leaves all cursors over all lists as they are. */
    static void dueLeavesCursors(Cursorlist x, Call call) {
        for (int list = 0; list < 4; list++) {
            x.open(0, list, 0);
            x.open(1, list, x.size(list));
            call.answer();
            due(x.ofCursor(0, 5) + " " + x.ofCursor(1, 5), "0 0");
        }
        shutAll(x);
    }

    private static void shutAll(Cursorlist x) {
        for (int cursor = 0; cursor < 3; cursor++) {
            x.shut(cursor);
        }
    }

    static String outcomeOf(Call call) {
        try {
            return "answers " + call.answer();
        } catch (RuntimeException e) {
            return "throws " + e.getClass().getSimpleName();
        }
    }

    /** All that an object tells of itself, but for how often it refused. */
    static String stateOf(Cursorlist x) {
        StringBuilder state = new StringBuilder();
        for (int list = 0; list < 4; list++) {
            state.append(x.text(list, false)).append(" / ");
        }
        for (int cursor = 0; cursor < 3; cursor++) {
            for (int what = 0; what <= 5; what++) {
                state.append(x.ofCursor(cursor, what)).append(' ');
            }
        }
        for (int what = 0; what <= 3; what++) {
            state.append(x.asked(what)).append(' ');
        }
        state.append("/ ").append(x.recent()).append(" / ");
        return state.append(x.house(0)).append(' ').append(x.house(1)).append(' ').append(x.house(2)).append(' ')
                .append(x.house(4)).append(' ').toString();
    }

    static Cursorlist with(int... items) {
        Cursorlist x = new Cursorlist();
        fill(x, 0, items);
        return x;
    }

    static void fill(Cursorlist x, int list, int... items) {
        x.clear(list);
        for (int item : items) {
            x.put(list, 1, item);
        }
    }

    static List<String> linesOf(Path path) {
        try {
            return Files.readAllLines(path);
        } catch (IOException e) {
            throw new IllegalStateException("can not read " + path, e);
        }
    }

    static void tellWrong(String what) {
        wrong++;
        StackTraceElement at = StackWalker.getInstance().walk(frames -> frames
                .filter(frame -> !frame.getClassName().equals("Check"))
                .findFirst().map(StackWalker.StackFrame::toStackTraceElement).orElse(null));
        System.out.println((at == null ? "" : at.getFileName() + ":" + at.getLineNumber() + ": ") + what);
    }
}
