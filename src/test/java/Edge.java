import java.util.function.BiFunction;
import java.util.function.Consumer;
import java.util.function.Function;

/**
 * Boundary cases. Each is a test of its own: an object is made ready, then one call is made, and what it answers and
 * what it leaves behind is compared with what is due. "Changes nothing" is looked at on a twin that was made ready
 * alike and not called: all that the two tell afterwards is the same, up to which item each cursor told last.
 */
final class Edge {

    static final String EIGHT = "0 1 2 3 4 5 6 7";
    static final String FIFTEEN = "0 1 2 3 4 5 6 7 8 9 10 11 12 13 14";
    static final String SIXTEEN = "0 1 2 3 4 5 6 7 8 9 10 11 12 13 14 15";

    private Edge() {
    }

    // ---- what an object is made ready with

    /** The lists are these, from list 0 on; "" is one with no items. */
    static Consumer<Cursorlist> lists(String... texts) {
        return x -> {
            for (int list = 0; list < texts.length; list++) {
                for (String item : texts[list].split(" ")) {
                    if (!item.isEmpty()) {
                        x.put(list, 1, Integer.parseInt(item));
                    }
                }
            }
        };
    }

    /** So too, and over each of lists 0 to 2 a cursor that told the first item: it shows what a call does to it. */
    static Consumer<Cursorlist> watched(String... texts) {
        return lists(texts).andThen(x -> {
            for (int cursor = 0; cursor < 3; cursor++) {
                x.open(cursor, cursor, 0);
                x.forth(cursor);
            }
        });
    }

    /** An item that many times, with " " between. */
    static String times(int many, int item) {
        return (item + " ").repeat(many).trim();
    }

    // ---- the kinds of cases

    /** The call answers so, and changes nothing. */
    static void tells(String name, Consumer<Cursorlist> ready, Function<Cursorlist, Object> call, Object want) {
        unchanged(name, ready, call, "answers " + want, 0);
    }

    /** The call answers REFUSED, which is counted once, and changes nothing. */
    static void refuses(String name, Consumer<Cursorlist> ready, Function<Cursorlist, Object> call) {
        unchanged(name, ready, call, "answers " + Check.REFUSED, 1);
    }

    static void noPlace(String name, Consumer<Cursorlist> ready, Function<Cursorlist, Object> call) {
        unchanged(name, ready, call, "throws IndexOutOfBoundsException", 0);
    }

    static void badArgument(String name, Consumer<Cursorlist> ready, Function<Cursorlist, Object> call) {
        unchanged(name, ready, call, "throws IllegalArgumentException", 0);
    }

    static void badState(String name, Consumer<Cursorlist> ready, Function<Cursorlist, Object> call) {
        unchanged(name, ready, call, "throws IllegalStateException", 0);
    }

    /** The call answers so; then the lists are these, from list 0 on, and no other has an item. */
    static void becomes(String name, Consumer<Cursorlist> ready, Function<Cursorlist, Object> call, Object want,
            String... texts) {
        Check.test(name, () -> {
            Cursorlist x = made(ready);
            int refusals = x.house(3);
            Check.due(Check.outcomeOf(() -> call.apply(x)), "answers " + want);
            for (int list = 0; list < 4; list++) {
                Check.dueText(x, list, list < texts.length ? texts[list] : "");
            }
            Check.due(x.house(3), refusals);
        });
    }

    /** Numbers from least to most are places; those next to them, and the outermost, are none. */
    static void places(String name, int least, int most, Consumer<Cursorlist> ready,
            BiFunction<Cursorlist, Integer, Object> call) {
        for (int number : beyond(least, most)) {
            noPlace(name + " " + number, ready, x -> call.apply(x, number));
        }
        takesEnds(name, least, most, ready, call);
    }

    /** Numbers from least to most are arguments; those next to them, and the outermost, are none. */
    static void arguments(String name, int least, int most, Consumer<Cursorlist> ready,
            BiFunction<Cursorlist, Integer, Object> call) {
        for (int number : beyond(least, most)) {
            badArgument(name + " " + number, ready, x -> call.apply(x, number));
        }
        takesEnds(name, least, most, ready, call);
    }

    /** The call makes stale each cursor over that list, wherever it stands, and no other one. */
    static void makesStale(String name, int list, Consumer<Cursorlist> ready, Function<Cursorlist, Object> call) {
        Check.test(name, () -> dueStale(list, ready, call));
    }

    /** The call leaves all cursors over all lists as they stand. */
    static void leavesCursors(String name, Consumer<Cursorlist> ready, Function<Cursorlist, Object> call) {
        Check.test(name, () -> dueStale(Check.NONE, ready, call));
    }

    // ---- how they are looked at

    private static Cursorlist made(Consumer<Cursorlist> ready) {
        Cursorlist x = new Cursorlist();
        ready.accept(x);
        return x;
    }

    private static void unchanged(String name, Consumer<Cursorlist> ready, Function<Cursorlist, Object> call,
            String want, int counted) {
        Check.test(name, () -> {
            Cursorlist x = made(ready);
            Cursorlist twin = made(ready);
            Check.due(Check.outcomeOf(() -> call.apply(x)), want);
            Check.due(x.house(3), twin.house(3) + counted);
            Check.due(allOf(x), allOf(twin));
        });
    }

    private static int[] beyond(int least, int most) {
        return new int[] {least - 1, most + 1, Integer.MIN_VALUE, Integer.MAX_VALUE};
    }

    private static void takesEnds(String name, int least, int most, Consumer<Cursorlist> ready,
            BiFunction<Cursorlist, Integer, Object> call) {
        for (int number = least; number <= most; number += Math.max(1, most - least)) {
            int end = number;
            Check.test(name + " " + end, () -> {
                Cursorlist x = made(ready);
                Check.due(Check.outcomeOf(() -> call.apply(x, end)).startsWith("answers "), true);
            });
        }
    }

    private static void dueStale(int staleList, Consumer<Cursorlist> ready, Function<Cursorlist, Object> call) {
        for (int list = 0; list < 4; list++) {
            Cursorlist x = made(ready);
            int many = x.size(list);
            x.open(0, list, 0);
            x.open(1, list, many / 2);
            x.open(2, list, many);
            Check.outcomeOf(() -> call.apply(x));
            String standing = x.ofCursor(0, 1) + " " + x.ofCursor(1, 1) + " " + x.ofCursor(2, 1);
            Check.due(standing, list == staleList ? "-1 -1 -1" : "0 " + many / 2 + " " + many);
            Check.due(x.house(2), list == staleList ? 3 : 0);
        }
    }

    /** All that an object comes to: what it tells of itself, and what its cursors and askings answer when used. */
    private static String allOf(Cursorlist x) {
        StringBuilder all = new StringBuilder(Check.stateOf(x));
        for (int cursor = 0; cursor < 3; cursor++) {
            int by = cursor;
            all.append("| ").append(Check.outcomeOf(() -> x.changes(by, 4321 + by))).append(' ').append(textsOf(x));
        }
        for (int cursor = 0; cursor < 3; cursor++) {
            int by = cursor;
            all.append("| ").append(Check.outcomeOf(() -> x.cuts(by))).append(' ').append(textsOf(x));
        }
        x.places(3, 8);
        for (int turn = 0; turn < 8; turn++) {
            x.rotate(3, 1);
            all.append("| ").append(x.byOrder(3, 2));
        }
        return all.append("| ").append(x.forget()).append(x.recent()).toString();
    }

    private static String textsOf(Cursorlist x) {
        StringBuilder texts = new StringBuilder();
        for (int list = 0; list < 4; list++) {
            texts.append(x.text(list, false)).append(" / ");
        }
        return texts.toString();
    }
}
