/** Promises 1 to 17: each boundary case that a sentence names, in a test of its own. */
final class ListEdgesTest {

    private static final String[] NUMBERS_THAT_ARE_NO_ITEM = {"10000", "-10000", "2147483647", "-2147483648"};

    private ListEdgesTest() {
    }

    public static void main(String[] args) {
        newObject();
        put();
        putInto16();
        take();
        takeOfNone();
        look();
        lookOfNone();
        get();
        set();
        insert();
        insertInto16();
        removeAt();
        drop();
        thin();
        indexOf();
        has();
        size();
        text();
        clear();
        append();
        appendAt();
        appendAtOver16();
        Check.end();
    }

    private static void newObject() {
        for (int each = 0; each < 4; each++) {
            int list = each;
            Edge.tells("1: new: list " + list + " is empty", Edge.lists(), x -> x.size(list) + x.text(list, false),
                    "0");
        }
        Edge.noPlace("1: new: four lists, no fifth", Edge.lists(), x -> x.size(4));
        for (int each = 0; each < 3; each++) {
            int cursor = each;
            Edge.tells("1: new: cursor " + cursor + " is not there", Edge.lists(), x -> x.shut(cursor), false);
            Edge.badState("1: new: cursor " + cursor + " does nothing", Edge.lists(), x -> x.forth(cursor));
        }
        Edge.noPlace("1: new: three cursors, no fourth", Edge.lists(), x -> x.shut(3));
        Edge.tells("1: new: nothing is asked", Edge.lists(), x -> x.asked(0) + " " + x.asked(1) + " " + x.asked(2),
                "0 0 -1");
        Edge.tells("1: new: RECENT is 0 to 7", Edge.lists(), Cursorlist::recent, "0 1 2 3 4 5 6 7");
        Edge.tells("1: new: nothing is refused or knocked", Edge.lists(), x -> x.house(3) + " " + x.house(4), "0 0");
        Check.test("1: new: an object has nothing of another one", () -> {
            Cursorlist used = Check.with(1, 2);
            used.open(0, 0, 1);
            used.ask(7);
            used.knock();
            used.look(1, 0);
            Check.due(Check.stateOf(new Cursorlist()), Check.stateOf(new Cursorlist()));
            Check.due(new Cursorlist().house(0), 0);
            Check.due(new Cursorlist().house(1), 0);
            Check.due(new Cursorlist().house(3), 0);
            Check.due(new Cursorlist().house(4), 0);
            Check.due(new Cursorlist().recent(), "0 1 2 3 4 5 6 7");
        });
    }

    private static void put() {
        Edge.places("2: put: list", 0, 3, Edge.watched("1 2", "3"), (x, list) -> x.put(list, 0, 5));
        Edge.arguments("2: put: way", 0, 5, Edge.watched("1 2"), (x, way) -> x.put(0, way, 5));
        Edge.arguments("2: put: item", -9999, 9999, Edge.watched("1 2"), (x, item) -> x.put(0, 1, item));
        Edge.noPlace("2: put: the list goes ahead of the way", Edge.watched("1"), x -> x.put(4, 6, 5));
        Edge.noPlace("2: put: the list goes ahead of the item", Edge.watched("1"), x -> x.put(-1, 0, 10000));
        for (int each = 0; each <= 5; each++) {
            int way = each;
            Edge.becomes("2: put by " + way + " to none", Edge.lists(), x -> x.put(0, way, 5), 1, "5");
            Edge.becomes("2: put by " + way + " to some", Edge.lists("1 2", "3"), x -> x.put(0, way, 5), 3,
                    way % 2 == 0 ? "5 1 2" : "1 2 5", "3");
            Edge.makesStale("2: put by " + way + " makes stale", 0, Edge.lists("1 2", "3"), x -> x.put(0, way, 5));
        }
        Edge.becomes("2: put: the least item", Edge.lists(), x -> x.put(3, 0, -9999), 1, "", "", "", "-9999");
        Edge.becomes("2: put: the most item", Edge.lists(), x -> x.put(3, 1, 9999), 1, "", "", "", "9999");
    }

    private static void putInto16() {
        for (int each = 0; each <= 5; each++) {
            int way = each;
            Edge.becomes("2: put by " + way + " to 15", Edge.lists(Edge.FIFTEEN), x -> x.put(0, way, 77), 16,
                    way % 2 == 0 ? "77 " + Edge.FIFTEEN : Edge.FIFTEEN + " 77");
            Edge.refuses("2: put by " + way + " to 16", Edge.watched(Edge.SIXTEEN), x -> x.put(0, way, 77));
        }
        Edge.leavesCursors("2: put REFUSED leaves cursors", Edge.lists(Edge.SIXTEEN), x -> x.put(0, 0, 77));
        Edge.badArgument("2: put: the way goes ahead of REFUSED", Edge.watched(Edge.SIXTEEN), x -> x.put(0, 6, 77));
        Edge.badArgument("2: put: the item goes ahead of REFUSED", Edge.watched(Edge.SIXTEEN), x -> x.put(0, 0, 10000));
        Edge.becomes("2: put: another list may have 16", Edge.lists(Edge.SIXTEEN),
                x -> x.put(1, 0, 7), 1, Edge.SIXTEEN, "7");
    }

    private static boolean isLastTaken(int way) {
        return way == 1 || way == 3;
    }

    private static void take() {
        Edge.places("3: take: list", 0, 3, Edge.watched("1 2", "3", "4", "5"), (x, list) -> x.take(list, 2));
        Edge.arguments("3: take: way", 0, 6, Edge.watched("1 2"), (x, way) -> x.take(0, way));
        Edge.noPlace("3: take: the list goes ahead of the way", Edge.watched("1"), x -> x.take(4, 7));
        for (int each = 0; each <= 6; each++) {
            int way = each;
            boolean isLast = isLastTaken(way);
            Edge.becomes("3: take by " + way, Edge.lists("4 5 6", "3"), x -> x.take(0, way), isLast ? 6 : 4,
                    isLast ? "4 5" : "5 6", "3");
            Edge.becomes("3: take by " + way + " of one", Edge.lists("-9999", "3"), x -> x.take(0, way), -9999, "",
                    "3");
            Edge.becomes("3: take by " + way + " of 16", Edge.lists("77 " + Edge.FIFTEEN), x -> x.take(0, way),
                    isLast ? 14 : 77, isLast ? "77 0 1 2 3 4 5 6 7 8 9 10 11 12 13" : Edge.FIFTEEN);
            Edge.makesStale("3: take by " + way + " makes stale", 0, Edge.lists("4 5 6", "3"), x -> x.take(0, way));
        }
    }

    private static void takeOfNone() {
        for (int way : new int[] {0, 1, 4, 5}) {
            Edge.refuses("3: take by " + way + " of none", Edge.watched("", "3"), x -> x.take(0, way));
            Edge.leavesCursors("3: take by " + way + " REFUSED leaves cursors", Edge.lists(""), x -> x.take(0, way));
        }
        for (int way : new int[] {2, 3, 6}) {
            Edge.becomes("3: take by " + way + " of none", Edge.lists("", "3"), x -> x.take(0, way), 10000, "", "3");
            Edge.makesStale("3: take by " + way + " makes stale, though it told NOTHING", 0, Edge.lists("", "3"),
                    x -> x.take(0, way));
        }
        Edge.badArgument("3: take: the way -1 goes ahead of REFUSED", Edge.watched(""), x -> x.take(0, -1));
        Edge.badArgument("3: take: the way 7 goes ahead of NOTHING", Edge.watched(""), x -> x.take(0, 7));
        Edge.becomes("3: take: what all was taken of can be put to", Edge.lists("1"),
                x -> x.take(0, 0) + x.put(0, 0, 8), 2, "8");
    }

    private static void look() {
        Edge.places("4: look: list", 0, 3, Edge.watched("1 2", "3", "4", "5"), (x, list) -> x.look(list, 2));
        Edge.arguments("4: look: way", 0, 5, Edge.watched("1 2"), (x, way) -> x.look(0, way));
        Edge.noPlace("4: look: the list goes ahead of the way", Edge.watched("1"), x -> x.look(-1, 6));
        for (int each = 0; each <= 5; each++) {
            int way = each;
            boolean isLast = isLastTaken(way);
            Edge.tells("4: look by " + way, Edge.watched("4 5 6", "3"), x -> x.look(0, way), isLast ? 6 : 4);
            Edge.tells("4: look by " + way + " at one", Edge.watched("9999"), x -> x.look(0, way), 9999);
            Edge.tells("4: look by " + way + " at 16", Edge.watched(Edge.SIXTEEN),
                    x -> x.look(0, way), isLast ? 15 : 0);
            Edge.leavesCursors("4: look by " + way + " leaves cursors", Edge.lists("4 5"), x -> x.look(0, way));
        }
    }

    private static void lookOfNone() {
        for (int way : new int[] {0, 1, 4}) {
            Edge.refuses("4: look by " + way + " at none", Edge.watched("", "3"), x -> x.look(0, way));
        }
        for (int way : new int[] {2, 3, 5}) {
            Edge.tells("4: look by " + way + " at none", Edge.watched("", "3"), x -> x.look(0, way), 10000);
        }
        Edge.badArgument("4: look: the way 6 goes ahead of REFUSED", Edge.watched(""), x -> x.look(0, 6));
        Edge.badArgument("4: look: the way -1 goes ahead of REFUSED", Edge.watched(""), x -> x.look(0, -1));
        Edge.refuses("4: look: what was taken is gone", Edge.lists("1").andThen(x -> x.take(0, 1)), x -> x.look(0, 1));
    }

    private static void get() {
        Edge.places("5: get: list", 0, 3, Edge.watched("1", "3", "4", "5"), (x, list) -> x.get(list, 0));
        Edge.places("5: get: place of three", 0, 2, Edge.watched("4 5 6"), (x, place) -> x.get(0, place));
        Edge.places("5: get: place of 16", 0, 15, Edge.watched(Edge.SIXTEEN), (x, place) -> x.get(0, place));
        Edge.noPlace("5: get: place 0 of none", Edge.watched("", "3"), x -> x.get(0, 0));
        Edge.noPlace("5: get: a place that was", Edge.lists("4 5").andThen(x -> x.take(0, 1)), x -> x.get(0, 1));
        Edge.tells("5: get: the first", Edge.watched("4 5 6"), x -> x.get(0, 0), 4);
        Edge.tells("5: get: the last", Edge.watched("4 5 6"), x -> x.get(0, 2), 6);
        Edge.tells("5: get: the last of 16", Edge.watched(Edge.SIXTEEN), x -> x.get(0, 15), 15);
    }

    private static void set() {
        Edge.places("6: set: list", 0, 3, Edge.watched("1", "3", "4", "5"), (x, list) -> x.set(list, 0, 9));
        Edge.places("6: set: place of three", 0, 2, Edge.watched("4 5 6"), (x, place) -> x.set(0, place, 9));
        Edge.noPlace("6: set: place 0 of none", Edge.watched("", "3"), x -> x.set(0, 0, 9));
        Edge.arguments("6: set: item", -9999, 9999, Edge.watched("4 5 6"), (x, item) -> x.set(0, 1, item));
        Edge.noPlace("6: set: the list goes ahead of the item", Edge.watched("4"), x -> x.set(4, 0, 10000));
        Edge.noPlace("6: set: the place goes ahead of the item", Edge.watched("4"), x -> x.set(0, 1, -10000));
        Edge.becomes("6: set: the first", Edge.lists("4 5 6", "3"), x -> x.set(0, 0, 9999), 4, "9999 5 6", "3");
        Edge.becomes("6: set: the last", Edge.lists("4 5 6", "3"), x -> x.set(0, 2, -9999), 6, "4 5 -9999", "3");
        Edge.becomes("6: set: of 16", Edge.lists(Edge.SIXTEEN), x -> x.set(0, 15, 77), 15, Edge.FIFTEEN + " 77");
        Edge.leavesCursors("6: set leaves cursors", Edge.lists("4 5 6"), x -> x.set(0, 1, 9));
        Edge.tells("6: set: LAST is what stands there since", Edge.lists("4 5").andThen(x -> x.open(0, 0, 0)), x -> {
            x.forth(0);
            x.set(0, 0, 9);
            x.changes(0, 4);
            x.open(0, 0, 0);
            return x.text(0, false);
        }, "4 5");
    }

    private static void insert() {
        Edge.places("7: insert: list", 0, 3, Edge.watched("1", "3"), (x, list) -> x.insert(list, 0, 9));
        Edge.places("7: insert: place in three", 0, 3, Edge.watched("4 5 6"), (x, place) -> x.insert(0, place, 9));
        Edge.places("7: insert: place in none", 0, 0, Edge.watched("", "3"), (x, place) -> x.insert(0, place, 9));
        Edge.arguments("7: insert: item", -9999, 9999, Edge.watched("4 5"), (x, item) -> x.insert(0, 1, item));
        Edge.noPlace("7: insert: the list goes ahead of the item", Edge.watched("4"), x -> x.insert(4, 0, 10000));
        Edge.noPlace("7: insert: the place goes ahead of the item", Edge.watched("4"), x -> x.insert(0, 2, 10000));
        Edge.becomes("7: insert: to none", Edge.lists("", "3"), x -> x.insert(0, 0, 9), 1, "9", "3");
        Edge.becomes("7: insert: ahead", Edge.lists("4 5", "3"), x -> x.insert(0, 0, -9999), 3, "-9999 4 5", "3");
        Edge.becomes("7: insert: between", Edge.lists("4 5", "3"), x -> x.insert(0, 1, 9), 3, "4 9 5", "3");
        Edge.becomes("7: insert: behind", Edge.lists("4 5", "3"), x -> x.insert(0, 2, 9999), 3, "4 5 9999", "3");
        Edge.makesStale("7: insert makes stale", 1, Edge.lists("4 5", "3"), x -> x.insert(1, 1, 9));
    }

    private static void insertInto16() {
        Edge.becomes("7: insert: ahead of 15", Edge.lists(Edge.FIFTEEN), x -> x.insert(0, 0, 9), 16,
                "9 " + Edge.FIFTEEN);
        Edge.becomes("7: insert: behind 15", Edge.lists(Edge.FIFTEEN),
                x -> x.insert(0, 15, 9), 16, Edge.FIFTEEN + " 9");
        Edge.refuses("7: insert: ahead of 16", Edge.watched(Edge.SIXTEEN), x -> x.insert(0, 0, 9));
        Edge.refuses("7: insert: between 16", Edge.watched(Edge.SIXTEEN), x -> x.insert(0, 7, 9));
        Edge.refuses("7: insert: behind 16", Edge.watched(Edge.SIXTEEN), x -> x.insert(0, 16, 9));
        Edge.noPlace("7: insert: the place goes ahead of REFUSED", Edge.watched(Edge.SIXTEEN), x -> x.insert(0, 17, 9));
        Edge.noPlace("7: insert: the place -1 goes ahead of REFUSED", Edge.watched(Edge.SIXTEEN),
                x -> x.insert(0, -1, 9));
        Edge.badArgument("7: insert: the item goes ahead of REFUSED", Edge.watched(Edge.SIXTEEN),
                x -> x.insert(0, 16, -10000));
        Edge.leavesCursors("7: insert REFUSED leaves cursors", Edge.lists(Edge.SIXTEEN), x -> x.insert(0, 16, 9));
    }

    private static void removeAt() {
        Edge.places("8: removeAt: list", 0, 3, Edge.watched("1", "3", "4", "5"), (x, list) -> x.removeAt(list, 0));
        Edge.places("8: removeAt: place of three", 0, 2, Edge.watched("4 5 6"), (x, place) -> x.removeAt(0, place));
        Edge.noPlace("8: removeAt: place 0 of none", Edge.watched("", "3"), x -> x.removeAt(0, 0));
        Edge.noPlace("8: removeAt: place 16 of 16", Edge.watched(Edge.SIXTEEN), x -> x.removeAt(0, 16));
        Edge.becomes("8: removeAt: the first", Edge.lists("4 5 6", "3"), x -> x.removeAt(0, 0), 4, "5 6", "3");
        Edge.becomes("8: removeAt: the last", Edge.lists("4 5 6", "3"), x -> x.removeAt(0, 2), 6, "4 5", "3");
        Edge.becomes("8: removeAt: the only one", Edge.lists("4", "3"), x -> x.removeAt(0, 0), 4, "", "3");
        Edge.becomes("8: removeAt: the last of 16", Edge.lists(Edge.SIXTEEN), x -> x.removeAt(0, 15), 15, Edge.FIFTEEN);
        Edge.becomes("8: removeAt: the first of 16", Edge.lists("9 " + Edge.FIFTEEN),
                x -> x.removeAt(0, 0), 9, Edge.FIFTEEN);
        Edge.makesStale("8: removeAt makes stale", 0, Edge.lists("4 5 6", "3"), x -> x.removeAt(0, 1));
    }

    private static void drop() {
        Edge.places("9: drop: list", 0, 3, Edge.watched("1", "3"), (x, list) -> x.drop(list, 1, false));
        Edge.becomes("9: drop: the first", Edge.lists("4 5 4 5", "4"), x -> x.drop(0, 4, false), true, "5 4 5", "4");
        Edge.becomes("9: drop: the last", Edge.lists("4 5 4 5", "4"), x -> x.drop(0, 4, true), true, "4 5 5", "4");
        Edge.becomes("9: drop: at the end", Edge.lists("4 5 4 5"), x -> x.drop(0, 5, true), true, "4 5 4");
        for (boolean isLast : new boolean[] {false, true}) {
            String name = isLast ? "9: drop the last: " : "9: drop the first: ";
            Edge.becomes(name + "the only one", Edge.lists("4", "4"), x -> x.drop(0, 4, isLast), true, "", "4");
            Edge.becomes(name + "not there", Edge.lists("4 5", "6"), x -> x.drop(0, 6, isLast), false, "4 5", "6");
            Edge.becomes(name + "of none", Edge.lists("", "0"), x -> x.drop(0, 0, isLast), false, "", "0");
            Edge.becomes(name + "that many alike", Edge.lists(Edge.times(16, 5)), x -> x.drop(0, 5, isLast), true,
                    Edge.times(15, 5));
            for (String number : NUMBERS_THAT_ARE_NO_ITEM) {
                int item = Integer.parseInt(number);
                Edge.becomes(name + "the number " + number, Edge.lists("4 5"), x -> x.drop(0, item, isLast), false,
                        "4 5");
            }
            Edge.makesStale(name + "makes stale", 0, Edge.lists("4 5", "4"), x -> x.drop(0, 4, isLast));
            Edge.makesStale(name + "makes stale, also if nothing went", 0, Edge.lists("4 5", "6"),
                    x -> x.drop(0, 6, isLast));
            Edge.makesStale(name + "makes stale, also with none", 0, Edge.lists("", "6"), x -> x.drop(0, 6, isLast));
        }
    }

    private static void thin() {
        Edge.places("10: thin: list", 0, 3, Edge.watched("1", "3"), (x, list) -> x.thin(list, 1));
        Edge.becomes("10: thin: all alike", Edge.lists(Edge.times(16, 5), "5"), x -> x.thin(0, 5), 16, "", "5");
        Edge.becomes("10: thin: the first and the last", Edge.lists("5 5 4 5 6 5 5", "5"), x -> x.thin(0, 5), 5, "4 6",
                "5");
        Edge.becomes("10: thin: not there", Edge.lists("4 6", "5"), x -> x.thin(0, 5), 0, "4 6", "5");
        Edge.becomes("10: thin: of none", Edge.lists("", "0"), x -> x.thin(0, 0), 0, "", "0");
        Edge.becomes("10: thin: what went is not there as 0", Edge.lists("5 4 5"), x -> x.thin(0, 5) + x.thin(0, 0), 2,
                "4");
        for (String number : NUMBERS_THAT_ARE_NO_ITEM) {
            int item = Integer.parseInt(number);
            Edge.becomes("10: thin: the number " + number, Edge.lists("4 5"), x -> x.thin(0, item), 0, "4 5");
        }
        Edge.makesStale("10: thin makes stale", 0, Edge.lists("4 5", "4"), x -> x.thin(0, 4));
        Edge.makesStale("10: thin makes stale, also if nothing went", 0, Edge.lists("4 5", "6"), x -> x.thin(0, 6));
        Edge.makesStale("10: thin makes stale, also with none", 2, Edge.lists("4 5", "6"), x -> x.thin(2, 6));
    }

    private static void indexOf() {
        Edge.places("11: indexOf: list", 0, 3, Edge.watched("1", "3"), (x, list) -> x.indexOf(list, 1, false));
        Edge.tells("11: indexOf: the first", Edge.watched("4 5 4 5"), x -> x.indexOf(0, 4, false), 0);
        Edge.tells("11: indexOf: the last", Edge.watched("4 5 4 5"), x -> x.indexOf(0, 5, true), 3);
        Edge.tells("11: indexOf: the first of more", Edge.watched("4 5 4 5"), x -> x.indexOf(0, 5, false), 1);
        Edge.tells("11: indexOf: the last of more", Edge.watched("4 5 4 5"), x -> x.indexOf(0, 4, true), 2);
        for (boolean isLast : new boolean[] {false, true}) {
            String name = isLast ? "11: indexOf the last: " : "11: indexOf the first: ";
            Edge.tells(name + "the only one", Edge.watched("4"), x -> x.indexOf(0, 4, isLast), 0);
            Edge.tells(name + "behind 15", Edge.watched(Edge.SIXTEEN), x -> x.indexOf(0, 15, isLast), 15);
            Edge.tells(name + "not there", Edge.watched("4 5", "6"), x -> x.indexOf(0, 6, isLast), -1);
            Edge.tells(name + "in none", Edge.watched("", "0"), x -> x.indexOf(0, 0, isLast), -1);
            Edge.tells(name + "what went", Edge.lists("4 5").andThen(x -> x.take(0, 1)),
                    x -> x.indexOf(0, 5, isLast), -1);
            for (String number : NUMBERS_THAT_ARE_NO_ITEM) {
                int item = Integer.parseInt(number);
                Edge.tells(name + "the number " + number, Edge.watched("4 5"), x -> x.indexOf(0, item, isLast), -1);
            }
        }
    }

    private static void has() {
        Edge.places("12: has: list", 0, 3, Edge.watched("1", "3"), (x, list) -> x.has(list, 1));
        Edge.tells("12: has: the first", Edge.watched("4 5 6"), x -> x.has(0, 4), true);
        Edge.tells("12: has: the last", Edge.watched("4 5 6"), x -> x.has(0, 6), true);
        Edge.tells("12: has: the last of 16", Edge.watched(Edge.SIXTEEN), x -> x.has(0, 15), true);
        Edge.tells("12: has: not there", Edge.watched("4 5", "6"), x -> x.has(0, 6), false);
        Edge.tells("12: has: none", Edge.watched("", "0"), x -> x.has(0, 0), false);
        Edge.tells("12: has: what went", Edge.lists("4 5").andThen(x -> x.take(0, 1)), x -> x.has(0, 5), false);
        for (String number : NUMBERS_THAT_ARE_NO_ITEM) {
            int item = Integer.parseInt(number);
            Edge.tells("12: has: the number " + number, Edge.watched("4 5"), x -> x.has(0, item), false);
        }
    }

    private static void size() {
        Edge.places("13: size: list", 0, 3, Edge.watched("1", "3"), (x, list) -> x.size(list));
        Edge.tells("13: size: none", Edge.watched("", "3"), x -> x.size(0), 0);
        Edge.tells("13: size: one", Edge.watched("7"), x -> x.size(0), 1);
        Edge.tells("13: size: 16", Edge.watched("", Edge.SIXTEEN), x -> x.size(1), 16);
    }

    private static void text() {
        Edge.places("14: text: list", 0, 3, Edge.watched("1", "3"), (x, list) -> x.text(list, true));
        for (boolean isDown : new boolean[] {false, true}) {
            String name = isDown ? "14: text from the last on: " : "14: text from the first on: ";
            Edge.tells(name + "none", Edge.watched("", "3"), x -> x.text(0, isDown), "");
            Edge.tells(name + "one", Edge.watched("-9999"), x -> x.text(0, isDown), "-9999");
            Edge.tells(name + "0", Edge.watched("0"), x -> x.text(0, isDown), "0");
            Edge.tells(name + "16", Edge.watched(Edge.SIXTEEN), x -> x.text(0, isDown),
                    isDown ? "15 14 13 12 11 10 9 8 7 6 5 4 3 2 1 0" : Edge.SIXTEEN);
            Edge.tells(name + "what went", Edge.lists("4 5").andThen(x -> x.clear(0)), x -> x.text(0, isDown), "");
        }
        Edge.tells("14: text: the longest", Edge.watched(Edge.times(16, -9999)),
                x -> x.text(0, true), Edge.times(16, -9999));
    }

    private static void clear() {
        Edge.places("15: clear: list", 0, 3, Edge.watched("1", "3"), (x, list) -> x.clear(list));
        Edge.becomes("15: clear: none", Edge.lists("", "3"), x -> x.clear(0), 0, "", "3");
        Edge.becomes("15: clear: one", Edge.lists("4", "3"), x -> x.clear(0), 1, "", "3");
        Edge.becomes("15: clear: 16", Edge.lists(Edge.SIXTEEN, "3"), x -> x.clear(0), 16, "", "3");
        Edge.makesStale("15: clear makes stale", 0, Edge.lists("4 5", "3"), x -> x.clear(0));
        Edge.makesStale("15: clear makes stale, also with none", 0, Edge.lists("", "3"), x -> x.clear(0));
    }

    private static void append() {
        Edge.places("16: append: list", 0, 3, Edge.watched("1", "3"), (x, list) -> x.append(list, 0));
        Edge.places("16: append: from", 0, 3, Edge.watched("1", "3"), (x, from) -> x.append(0, from));
        Edge.noPlace("16: append: the list goes ahead of REFUSED", Edge.watched(Edge.SIXTEEN), x -> x.append(0, 4));
        Edge.becomes("16: append: none to none", Edge.lists("", ""), x -> x.append(0, 1), 0);
        Edge.becomes("16: append: none to itself", Edge.lists("", "3"), x -> x.append(0, 0), 0, "", "3");
        Edge.becomes("16: append: none to some", Edge.lists("4 5", ""), x -> x.append(0, 1), 2, "4 5");
        Edge.becomes("16: append: some to none", Edge.lists("", "4 5"), x -> x.append(0, 1), 2, "4 5", "4 5");
        Edge.becomes("16: append: to itself", Edge.lists("4 5", "3"), x -> x.append(0, 0), 4, "4 5 4 5", "3");
        Edge.becomes("16: append: to just 16", Edge.lists(Edge.FIFTEEN, "77"), x -> x.append(0, 1), 16,
                Edge.FIFTEEN + " 77", "77");
        Edge.becomes("16: append: to itself, just 16", Edge.lists(Edge.EIGHT), x -> x.append(0, 0), 16,
                Edge.EIGHT + " " + Edge.EIGHT);
        Edge.becomes("16: append: none to 16", Edge.lists(Edge.SIXTEEN, ""), x -> x.append(0, 1), 16, Edge.SIXTEEN);
        Edge.becomes("16: append: 16 to none", Edge.lists("", Edge.SIXTEEN), x -> x.append(0, 1), 16, Edge.SIXTEEN,
                Edge.SIXTEEN);
        Edge.refuses("16: append: to 17", Edge.watched(Edge.FIFTEEN, "4 5"), x -> x.append(0, 1));
        Edge.refuses("16: append: one to 16", Edge.watched(Edge.SIXTEEN, "4"), x -> x.append(0, 1));
        Edge.refuses("16: append: 16 to one", Edge.watched("4", Edge.SIXTEEN), x -> x.append(0, 1));
        Edge.refuses("16: append: 16 to itself", Edge.watched(Edge.SIXTEEN), x -> x.append(0, 0));
        Edge.refuses("16: append: 9 to itself", Edge.watched(Edge.EIGHT + " 8"), x -> x.append(0, 0));
        Edge.makesStale("16: append makes stale over list alone", 0, Edge.lists("4 5", "3"), x -> x.append(0, 1));
        Edge.makesStale("16: append makes stale, also if none came", 0, Edge.lists("4 5", ""), x -> x.append(0, 1));
        Edge.makesStale("16: append to itself makes stale", 0, Edge.lists("4 5", ""), x -> x.append(0, 0));
        Edge.leavesCursors("16: append REFUSED leaves cursors", Edge.lists(Edge.SIXTEEN, "4"), x -> x.append(0, 1));
    }

    private static void appendAt() {
        Edge.places("17: appendAt: list", 0, 3, Edge.watched("1", "3"), (x, list) -> x.appendAt(list, 0, 0));
        Edge.places("17: appendAt: from", 0, 3, Edge.watched("1", "3"), (x, from) -> x.appendAt(0, 0, from));
        Edge.places("17: appendAt: place in three", 0, 3, Edge.watched("4 5 6", "3"),
                (x, place) -> x.appendAt(0, place, 1));
        Edge.places("17: appendAt: place in none", 0, 0, Edge.watched("", "3 4"),
                (x, place) -> x.appendAt(0, place, 1));
        Edge.noPlace("17: appendAt: a place of from alone", Edge.watched("4", "3 4 5"), x -> x.appendAt(0, 3, 1));
        Edge.noPlace("17: appendAt: no place, and none come", Edge.watched("4", ""), x -> x.appendAt(0, 2, 1));
        Edge.becomes("17: appendAt: ahead", Edge.lists("4 5", "8 9"), x -> x.appendAt(0, 0, 1), 4, "8 9 4 5", "8 9");
        Edge.becomes("17: appendAt: between", Edge.lists("4 5", "8 9"), x -> x.appendAt(0, 1, 1), 4, "4 8 9 5", "8 9");
        Edge.becomes("17: appendAt: behind", Edge.lists("4 5", "8 9"), x -> x.appendAt(0, 2, 1), 4, "4 5 8 9", "8 9");
        Edge.becomes("17: appendAt: itself ahead", Edge.lists("4 5 6"), x -> x.appendAt(0, 0, 0), 6, "4 5 6 4 5 6");
        Edge.becomes("17: appendAt: itself between", Edge.lists("4 5 6"), x -> x.appendAt(0, 1, 0), 6, "4 4 5 6 5 6");
        Edge.becomes("17: appendAt: itself behind", Edge.lists("4 5 6"), x -> x.appendAt(0, 3, 0), 6, "4 5 6 4 5 6");
        Edge.becomes("17: appendAt: none to none", Edge.lists("", ""), x -> x.appendAt(0, 0, 1), 0);
        Edge.becomes("17: appendAt: none to some", Edge.lists("4 5", ""), x -> x.appendAt(0, 1, 1), 2, "4 5");
        Edge.becomes("17: appendAt: some to none", Edge.lists("", "4 5"), x -> x.appendAt(0, 0, 1), 2, "4 5", "4 5");
        Edge.makesStale("17: appendAt makes stale over list alone", 0, Edge.lists("4", "3"), x -> x.appendAt(0, 1, 1));
        Edge.makesStale("17: appendAt makes stale, also if none came", 0, Edge.lists("4", ""),
                x -> x.appendAt(0, 0, 1));
    }

    private static void appendAtOver16() {
        Edge.becomes("17: appendAt: to just 16", Edge.lists(Edge.FIFTEEN, "77"), x -> x.appendAt(0, 0, 1), 16,
                "77 " + Edge.FIFTEEN, "77");
        Edge.becomes("17: appendAt: itself to just 16", Edge.lists(Edge.EIGHT), x -> x.appendAt(0, 8, 0), 16,
                Edge.EIGHT + " " + Edge.EIGHT);
        Edge.becomes("17: appendAt: none to 16", Edge.lists(Edge.SIXTEEN, ""),
                x -> x.appendAt(0, 16, 1), 16, Edge.SIXTEEN);
        Edge.refuses("17: appendAt: to 17", Edge.watched(Edge.FIFTEEN, "4 5"), x -> x.appendAt(0, 3, 1));
        Edge.refuses("17: appendAt: one to 16", Edge.watched(Edge.SIXTEEN, "4"), x -> x.appendAt(0, 16, 1));
        Edge.refuses("17: appendAt: 9 to themselves", Edge.watched(Edge.EIGHT + " 8"), x -> x.appendAt(0, 4, 0));
        Edge.noPlace("17: appendAt: the place goes ahead of REFUSED", Edge.watched(Edge.SIXTEEN, "4"),
                x -> x.appendAt(0, 17, 1));
        Edge.noPlace("17: appendAt: the place -1 goes ahead of REFUSED", Edge.watched(Edge.SIXTEEN, "4"),
                x -> x.appendAt(0, -1, 1));
        Edge.noPlace("17: appendAt: from goes ahead of REFUSED", Edge.watched(Edge.SIXTEEN), x -> x.appendAt(0, 0, 4));
        Edge.leavesCursors("17: appendAt REFUSED leaves cursors", Edge.lists(Edge.SIXTEEN, "4"),
                x -> x.appendAt(0, 3, 1));
    }
}
