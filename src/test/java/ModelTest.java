import java.lang.reflect.InvocationTargetException;
import java.lang.reflect.Method;
import java.util.ArrayList;
import java.util.List;
import java.util.Map;
import java.util.TreeMap;

/**
 * Long runs of calls on an object and on the Model, compared call by call. The calls come of a row of numbers that is
 * the same each time, so a run that fails fails again.
 */
final class ModelTest {

    private static final int RUNS = 3000;
    private static final int CALLS = 512;

    // A call a word: its name, then what kind of number each argument is.
    private static final String[] CALLS_TOLD = {
        "put LWI", "take LW", "look LW", "get LP", "set LPI", "insert LPI", "removeAt LP", "drop LIB", "thin LI",
        "indexOf LIB", "has LI", "size L", "text LB", "clear L", "append LL", "appendAt LPL", "copy LL", "places LM",
        "rotate LR", "move LPP", "swap LPP", "reverse L", "through LLL", "areSame LL", "isMirror L", "open CLP",
        "shut C", "forth C", "back C", "puts CI", "cuts C", "changes CI", "meet CC", "ofCursor CW", "plus LL",
        "times LL", "shift L", "trim L", "derive L", "value LX", "degree L", "ask K", "forget", "asked W", "recent",
        "byOrder LW", "house W", "knock", "isSound", "digest"
    };

    private static long seed = 20261118;
    private static final Map<String, Integer> SEEN = new TreeMap<>();

    private ModelTest() {
    }

    public static void main(String[] args) {
        Check.test("runs answer as the model does", ModelTest::runs);
        Check.test("the runs came to all that a call can answer", ModelTest::reach);
        Check.end();
    }

    private static void runs() {
        Map<String, Method> real = methodsOf(Cursorlist.class);
        Map<String, Method> model = methodsOf(Model.class);
        for (int run = 0; run < RUNS; run++) {
            if (!runOnce(real, model)) {
                return;
            }
        }
    }

    private static boolean runOnce(Map<String, Method> real, Map<String, Method> model) {
        Cursorlist x = new Cursorlist();
        Model m = new Model();
        List<String> told = new ArrayList<>();
        int[] favoured = new int[8];
        for (int i = 0; i < favoured.length; i++) {
            favoured[i] = next(CALLS_TOLD.length);
        }
        boolean isSmall = next(2) == 0;
        for (int call = 0; call < CALLS; call++) {
            boolean isFavoured = next(3) != 0;
            String[] words = CALLS_TOLD[isFavoured ? favoured[next(8)] : next(CALLS_TOLD.length)].split(" ");
            Object[] arguments = argumentsOf(words.length > 1 ? words[1] : "", isSmall);
            String got = outcomeOf(real.get(words[0]), x, arguments);
            String want = outcomeOf(model.get(words[0]), m, arguments);
            told.add(words[0] + List.of(arguments) + " " + want);
            SEEN.merge(words[0] + " " + kindOf(want), 1, Integer::sum);
            boolean isLooked = call % 16 == 15;
            if (!got.equals(want) || isLooked && x.digest() != m.digest()) {
                Check.tellWrong(String.join("\n", told) + "\nanswered " + got + ", due is " + want);
                return false;
            }
        }
        return true;
    }

    private static void reach() {
        String[] want = {
            "put REFUSED", "take REFUSED", "take NOTHING", "look REFUSED", "look NOTHING", "insert REFUSED",
            "append REFUSED", "appendAt REFUSED", "rotate NOTHING", "reverse NOTHING", "through REFUSED",
            "through other", "drop true", "drop false", "areSame true", "areSame false", "isMirror true",
            "isMirror false", "shut true", "shut false", "forth NOTHING", "forth REFUSED", "forth other",
            "back NOTHING", "back REFUSED", "back other", "puts REFUSED", "puts other", "cuts REFUSED", "cuts other",
            "changes REFUSED", "changes other", "meet REFUSED", "meet other", "plus REFUSED", "plus other",
            "times REFUSED", "times other", "shift REFUSED", "derive REFUSED", "derive other", "byOrder REFUSED",
            "byOrder other", "ask throws IllegalStateException", "ask throws IllegalArgumentException",
            "forth throws IllegalStateException", "back throws IllegalStateException",
            "puts throws IllegalStateException", "puts throws IllegalArgumentException",
            "cuts throws IllegalStateException", "changes throws IllegalStateException",
            "changes throws IllegalArgumentException", "meet throws IllegalStateException",
            "meet throws IllegalArgumentException", "open throws IndexOutOfBoundsException"
        };
        for (String each : want) {
            if (SEEN.getOrDefault(each, 0) < 20) {
                Check.tellWrong("seen too seldom: " + each);
            }
        }
    }

    private static String kindOf(String outcome) {
        if (outcome.startsWith("throws") || outcome.equals("true") || outcome.equals("false")) {
            return outcome;
        }
        return outcome.equals("-1000009") ? "REFUSED" : outcome.equals("10000") ? "NOTHING" : "other";
    }

    private static Map<String, Method> methodsOf(Class<?> type) {
        Map<String, Method> methods = new TreeMap<>();
        for (Method method : type.getDeclaredMethods()) {
            if (java.lang.reflect.Modifier.isPublic(method.getModifiers())) {
                methods.put(method.getName(), method);
            }
        }
        Check.due(methods.size(), CALLS_TOLD.length);
        return methods;
    }

    private static String outcomeOf(Method method, Object object, Object[] arguments) {
        try {
            return String.valueOf(method.invoke(object, arguments));
        } catch (InvocationTargetException e) {
            return "throws " + e.getCause().getClass().getSimpleName();
        } catch (IllegalAccessException e) {
            throw new IllegalStateException(e);
        }
    }

    private static Object[] argumentsOf(String kinds, boolean isSmall) {
        Object[] arguments = new Object[kinds.length()];
        for (int i = 0; i < arguments.length; i++) {
            arguments[i] = argumentOf(kinds.charAt(i), isSmall);
        }
        return arguments;
    }

    private static Object argumentOf(char kind, boolean isSmall) {
        if (kind == 'B') {
            return next(2) == 0;
        }
        if (next(40) == 0) {
            int[] wild = {-1, 4, 3, 5, 6, 7, 8, 16, 17, 60, -99, 99, -100, 100, 9999, -9999, 10000, -10000,
                Integer.MAX_VALUE, Integer.MIN_VALUE};
            return wild[next(wild.length)];
        }
        return switch (kind) {
            case 'L' -> next(5) == 0 ? next(4) : next(2);
            case 'C' -> next(3);
            case 'W' -> next(6);
            case 'K' -> next(8);
            case 'P' -> next(isSmall ? 4 : 12);
            case 'M' -> next(3) == 0 ? next(17) : 8;
            case 'R' -> next(7) - 3;
            case 'X' -> next(199) - 99;
            default -> next(12) == 0 ? next(19999) - 9999 : isSmall ? next(5) - 2 : next(9);
        };
    }

    private static int next(int bound) {
        seed = seed * 6364136223846793005L + 1442695040888963407L;
        return (int) ((seed >>> 33) % bound);
    }
}
