import java.lang.reflect.Constructor;
import java.lang.reflect.Field;
import java.lang.reflect.Member;
import java.lang.reflect.Method;
import java.lang.reflect.Modifier;
import java.nio.file.Path;
import java.util.ArrayList;
import java.util.List;
import java.util.TreeSet;

/** The class shows just the face of the document, and keeps the rules of the language that a program can look at. */
final class FaceTest {

    private static final Path SOURCE = Path.of("src/main/java/Cursorlist.java");

    private FaceTest() {
    }

    public static void main(String[] args) {
        Check.test("the public face is the document's", FaceTest::face);
        Check.test("nothing else is to be seen", FaceTest::nothingElse);
        Check.test("no private method bears a public name", FaceTest::names);
        Check.test("static fields are constants", FaceTest::staticFields);
        Check.test("the source keeps to the words it may use", FaceTest::words);
        Check.end();
    }

    private static void face() {
        TreeSet<String> want = new TreeSet<>();
        boolean isFace = false;
        for (String line : Check.linesOf(Check.DOCUMENT)) {
            if (line.startsWith("public final class")) {
                isFace = true;
            } else if (line.startsWith("}")) {
                isFace = false;
            } else if (isFace) {
                want.add(line.trim().replaceAll("(int|boolean) \\w+(?=[,)])", "$1").replace(";", ""));
            }
        }
        TreeSet<String> got = new TreeSet<>();
        for (Constructor<?> made : Cursorlist.class.getDeclaredConstructors()) {
            got.add(made.toGenericString());
        }
        for (Method method : Cursorlist.class.getDeclaredMethods()) {
            if (Modifier.isPublic(method.getModifiers())) {
                got.add(faceOf(method));
            }
        }
        Check.due(got.toString(), want.toString());
        Check.due(got.size(), 51);
    }

    private static String faceOf(Method method) {
        return method.toGenericString().replace("java.lang.", "").replace("Cursorlist.", "")
                .replace(",", ", ").replace("  ", " ");
    }

    private static void nothingElse() {
        Check.due(Modifier.isFinal(Cursorlist.class.getModifiers()), true);
        for (Field field : Cursorlist.class.getDeclaredFields()) {
            duePrivate(field);
        }
        for (Method method : Cursorlist.class.getDeclaredMethods()) {
            if (!Modifier.isPublic(method.getModifiers())) {
                duePrivate(method);
            }
        }
        for (Class<?> inside : Cursorlist.class.getDeclaredClasses()) {
            Check.due(Modifier.isStatic(inside.getModifiers()), true);
            Check.due(Modifier.isPublic(inside.getModifiers()), false);
            Check.due(Modifier.isProtected(inside.getModifiers()), false);
        }
    }

    private static void duePrivate(Member member) {
        if (!Modifier.isPrivate(member.getModifiers())) {
            Check.tellWrong(member + " is not private");
        }
    }

    private static void names() {
        TreeSet<String> open = new TreeSet<>();
        for (Method method : Cursorlist.class.getMethods()) {
            open.add(method.getName());
        }
        List<Method> hidden = new ArrayList<>();
        for (Class<?> type : allClasses()) {
            hidden.addAll(List.of(type.getDeclaredMethods()));
        }
        for (Method method : hidden) {
            if (!Modifier.isPublic(method.getModifiers()) && open.contains(method.getName())) {
                Check.tellWrong(method + " bears the name of a public method");
            }
        }
    }

    private static void staticFields() {
        for (Class<?> type : allClasses()) {
            for (Field field : type.getDeclaredFields()) {
                if (Modifier.isStatic(field.getModifiers()) && !Modifier.isFinal(field.getModifiers())) {
                    Check.tellWrong(field + " is static and not final");
                }
            }
        }
    }

    private static List<Class<?>> allClasses() {
        List<Class<?>> all = new ArrayList<>(List.of(Cursorlist.class));
        all.addAll(List.of(Cursorlist.class.getDeclaredClasses()));
        return all;
    }

    private static void words() {
        String[] ruledOut = {
            "import ", "package ", "->", "::", "finally", "synchronized", "assert ", "Exact(", "catch", "try ",
            "System.", "Random", "Thread", "native ", "volatile", "transient", "instanceof", "\"+", "+ \"", "@"
        };
        for (String line : Check.linesOf(SOURCE)) {
            for (String word : ruledOut) {
                if (line.contains(word)) {
                    Check.tellWrong("the source uses " + word + ": " + line.trim());
                }
            }
            Check.due(line.chars().allMatch(sign -> sign >= 32 && sign < 127), true);
        }
    }
}
