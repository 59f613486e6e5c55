/** Promises 1 to 26: a new object, and lists. */
final class ListsTest {

    private ListsTest() {
    }

    public static void main(String[] args) {
        Check.test("promise 1: a new object", ListsTest::newObject);
        Check.test("promise 2: put", ListsTest::put);
        Check.test("promise 2: put, the edges", ListsTest::putEdges);
        Check.test("promise 3: take", ListsTest::take);
        Check.test("promise 3: take of none", ListsTest::takeOfNone);
        Check.test("promise 4: look", ListsTest::look);
        Check.test("promise 5: get", ListsTest::get);
        Check.test("promise 6: set", ListsTest::set);
        Check.test("promise 7: insert", ListsTest::insert);
        Check.test("promise 8: removeAt", ListsTest::removeAt);
        Check.test("promise 9: drop", ListsTest::drop);
        Check.test("promise 10: thin", ListsTest::thin);
        Check.test("promise 11: indexOf", ListsTest::indexOf);
        Check.test("promise 12: has", ListsTest::has);
        Check.test("promise 13: size", ListsTest::size);
        Check.test("promise 14: text", ListsTest::text);
        Check.test("promise 15: clear", ListsTest::clear);
        Check.test("promise 16: append", ListsTest::append);
        Check.test("promise 17: appendAt", ListsTest::appendAt);
        Check.test("promise 18: copy", ListsTest::copy);
        Check.test("promise 19: places", ListsTest::places);
        Check.test("promise 20: rotate", ListsTest::rotate);
        Check.test("promise 21: move", ListsTest::move);
        Check.test("promise 22: swap", ListsTest::swap);
        Check.test("promise 23: reverse", ListsTest::reverse);
        Check.test("promise 24: through", ListsTest::through);
        Check.test("promise 25: areSame", ListsTest::areSame);
        Check.test("promise 26: isMirror", ListsTest::isMirror);
        Check.end();
    }

    private static void newObject() {
        Cursorlist x = new Cursorlist();
        for (int list = 0; list < 4; list++) {
            Check.due(x.size(list), 0);
        }
        for (int cursor = 0; cursor < 3; cursor++) {
            Check.due(x.shut(cursor), false);
        }
        Check.due(x.asked(0), 0);
        Check.due(x.asked(1), 0);
        Check.due(x.asked(2), Check.NONE);
        Check.due(x.recent(), "0 1 2 3 4 5 6 7");
        for (int what = 0; what <= 4; what++) {
            Check.due(x.house(what), 0);
        }
    }

    private static void put() {
        for (int way = 0; way <= 5; way++) {
            Cursorlist x = Check.with(1, 2);
            Check.due(x.put(0, way, 9), 3);
            Check.dueText(x, 0, way % 2 == 0 ? "9 1 2" : "1 2 9");
            Check.dueText(x, 1, "");
        }
    }

    private static void putEdges() {
        Cursorlist x = new Cursorlist();
        Check.due(x.put(3, 0, 9999), 1);
        Check.due(x.put(3, 0, -9999), 2);
        x.places(0, 15);
        Check.due(x.put(0, 4, 5), 16);
        for (int way = 0; way <= 5; way++) {
            int full = way;
            Check.dueRefused(x, () -> x.put(0, full, 7));
        }
        Check.dueLeavesCursors(x, () -> x.put(0, 0, 7));
        Check.dueMakesStale(x, 1, () -> x.put(1, 5, 7));
        Check.dueNoPlace(x, () -> x.put(-1, 0, 0));
        Check.dueNoPlace(x, () -> x.put(4, 6, 10000));
        Check.dueBadArgument(x, () -> x.put(0, -1, 0));
        Check.dueBadArgument(x, () -> x.put(0, 6, 0));
        Check.dueBadArgument(x, () -> x.put(0, 0, 10000));
        Check.dueBadArgument(x, () -> x.put(1, 0, -10000));
    }

    private static void take() {
        for (int way = 0; way <= 6; way++) {
            boolean isLast = way == 1 || way == 3;
            Cursorlist x = Check.with(5, 6, 7);
            Check.due(x.take(0, way), isLast ? 7 : 5);
            Check.dueText(x, 0, isLast ? "5 6" : "6 7");
            int one = way;
            Check.dueMakesStale(x, 0, () -> x.take(0, one));
            Check.due(x.take(0, way), isLast ? 5 : 7);
            Check.due(x.size(0), 0);
        }
        Cursorlist x = Check.with(1);
        Check.dueNoPlace(x, () -> x.take(4, 7));
        Check.dueNoPlace(x, () -> x.take(-1, 0));
        Check.dueBadArgument(x, () -> x.take(0, 7));
        Check.dueBadArgument(x, () -> x.take(0, -1));
    }

    private static void takeOfNone() {
        Cursorlist x = new Cursorlist();
        for (int way : new int[] {0, 1, 4, 5}) {
            Check.dueRefused(x, () -> x.take(2, way));
            Check.dueLeavesCursors(x, () -> x.take(2, way));
        }
        int refusals = x.house(3);
        for (int way : new int[] {2, 3, 6}) {
            Check.due(x.take(2, way), Check.NOTHING);
            Check.dueMakesStale(x, 2, () -> x.take(2, way));
        }
        Check.due(x.house(3), refusals);
    }

    private static void look() {
        Cursorlist x = Check.with(5, 6, 7);
        for (int way = 0; way <= 5; way++) {
            Check.due(x.look(0, way), way == 1 || way == 3 ? 7 : 5);
        }
        Check.dueText(x, 0, "5 6 7");
        for (int way : new int[] {0, 1, 4}) {
            Check.dueRefused(x, () -> x.look(1, way));
        }
        for (int way : new int[] {2, 3, 5}) {
            Check.due(x.look(1, way), Check.NOTHING);
        }
        Check.due(x.house(3), 3);
        Check.dueLeavesCursors(x, () -> x.look(0, 0));
        Check.dueLeavesCursors(x, () -> x.look(1, 2));
        Check.dueNoPlace(x, () -> x.look(4, 6));
        Check.dueNoPlace(x, () -> x.look(-1, 0));
        Check.dueBadArgument(x, () -> x.look(1, 6));
        Check.dueBadArgument(x, () -> x.look(0, -1));
    }

    private static void get() {
        Cursorlist x = Check.with(5, 6, 7);
        Check.due(x.get(0, 0), 5);
        Check.due(x.get(0, 1), 6);
        Check.due(x.get(0, 2), 7);
        Check.dueLeavesCursors(x, () -> x.get(0, 1));
        Check.dueNoPlace(x, () -> x.get(0, 3));
        Check.dueNoPlace(x, () -> x.get(0, -1));
        Check.dueNoPlace(x, () -> x.get(1, 0));
        Check.dueNoPlace(x, () -> x.get(4, 0));
        Check.dueNoPlace(x, () -> x.get(-1, 0));
        x.take(0, 1);
        Check.dueNoPlace(x, () -> x.get(0, 2));
        x.places(0, 16);
        Check.due(x.get(0, 15), 15);
        Check.dueNoPlace(x, () -> x.get(0, 16));
    }

    private static void set() {
        Cursorlist x = Check.with(5, 6, 7);
        Check.due(x.set(0, 1, -9999), 6);
        Check.due(x.set(0, 1, 9999), -9999);
        Check.due(x.set(0, 2, 8), 7);
        Check.dueText(x, 0, "5 9999 8");
        Check.dueLeavesCursors(x, () -> x.set(0, 0, 4));
        Check.dueNoPlace(x, () -> x.set(0, 3, 10000));
        Check.dueNoPlace(x, () -> x.set(0, -1, 0));
        Check.dueNoPlace(x, () -> x.set(4, 0, 0));
        Check.dueBadArgument(x, () -> x.set(0, 0, 10000));
        Check.dueBadArgument(x, () -> x.set(0, 2, -10000));
    }

    private static void insert() {
        Cursorlist x = Check.with(5, 6);
        Check.due(x.insert(0, 1, 1), 3);
        Check.due(x.insert(0, 0, 2), 4);
        Check.due(x.insert(0, 4, 3), 5);
        Check.dueText(x, 0, "2 5 1 6 3");
        Check.dueMakesStale(x, 0, () -> x.insert(0, 5, 9));
        Check.dueNoPlace(x, () -> x.insert(0, 7, 10000));
        Check.dueNoPlace(x, () -> x.insert(0, -1, 0));
        Check.dueNoPlace(x, () -> x.insert(4, 0, 0));
        Check.dueBadArgument(x, () -> x.insert(0, 0, 10000));
        Check.dueBadArgument(x, () -> x.insert(0, 6, -10000));
        x.places(1, 16);
        Check.dueRefused(x, () -> x.insert(1, 3, 0));
        Check.dueRefused(x, () -> x.insert(1, 16, 0));
        Check.dueLeavesCursors(x, () -> x.insert(1, 16, 0));
        Check.dueNoPlace(x, () -> x.insert(1, 17, 0));
        Check.dueBadArgument(x, () -> x.insert(1, 16, 10000));
    }

    private static void removeAt() {
        Cursorlist x = Check.with(5, 6, 7, 8);
        Check.due(x.removeAt(0, 1), 6);
        Check.due(x.removeAt(0, 2), 8);
        Check.dueText(x, 0, "5 7");
        Check.dueNoPlace(x, () -> x.removeAt(0, 2));
        Check.dueNoPlace(x, () -> x.removeAt(0, -1));
        Check.dueNoPlace(x, () -> x.removeAt(1, 0));
        Check.dueNoPlace(x, () -> x.removeAt(4, 0));
        Check.dueMakesStale(x, 0, () -> x.removeAt(0, 0));
        Check.dueText(x, 0, "7");
    }

    private static void drop() {
        Cursorlist x = Check.with(1, 2, 1, 3, 1);
        Check.due(x.drop(0, 1, false), true);
        Check.dueText(x, 0, "2 1 3 1");
        Check.due(x.drop(0, 1, true), true);
        Check.dueText(x, 0, "2 1 3");
        Check.due(x.drop(0, 9, true), false);
        Check.due(x.drop(0, 9, false), false);
        Check.due(x.drop(0, 10000, false), false);
        Check.due(x.drop(1, 0, true), false);
        Check.dueText(x, 0, "2 1 3");
        Check.due(x.house(3), 0);
        Check.dueMakesStale(x, 0, () -> x.drop(0, 3, false));
        Check.dueMakesStale(x, 0, () -> x.drop(0, 9, false));
        Check.dueMakesStale(x, 3, () -> x.drop(3, 0, true));
        Check.dueNoPlace(x, () -> x.drop(4, 1, false));
        Check.dueNoPlace(x, () -> x.drop(-1, 1, true));
    }

    private static void thin() {
        Cursorlist x = Check.with(1, 1, 2, 1, 3, 1);
        Check.due(x.thin(0, 9), 0);
        Check.due(x.thin(0, 1), 4);
        Check.dueText(x, 0, "2 3");
        Check.due(x.thin(0, 1), 0);
        Check.due(x.thin(0, 0), 0);
        Check.due(x.thin(1, 0), 0);
        Check.due(x.thin(0, 20000), 0);
        Check.dueMakesStale(x, 0, () -> x.thin(0, 9));
        Check.dueMakesStale(x, 0, () -> x.thin(0, 3));
        Check.dueNoPlace(x, () -> x.thin(4, 1));
        Check.dueNoPlace(x, () -> x.thin(-1, 1));
    }

    private static void indexOf() {
        Cursorlist x = Check.with(1, 2, 1, 3, 1);
        Check.due(x.indexOf(0, 1, false), 0);
        Check.due(x.indexOf(0, 1, true), 4);
        Check.due(x.indexOf(0, 3, false), 3);
        Check.due(x.indexOf(0, 3, true), 3);
        Check.due(x.indexOf(0, 0, false), Check.NONE);
        Check.due(x.indexOf(0, 0, true), Check.NONE);
        Check.due(x.indexOf(1, 0, false), Check.NONE);
        Check.due(x.indexOf(0, Integer.MAX_VALUE, false), Check.NONE);
        Check.dueLeavesCursors(x, () -> x.indexOf(0, 1, true));
        Check.dueNoPlace(x, () -> x.indexOf(4, 1, false));
        Check.dueNoPlace(x, () -> x.indexOf(-1, 1, true));
    }

    private static void has() {
        Cursorlist x = Check.with(1, 2, -7);
        Check.due(x.has(0, 1), true);
        Check.due(x.has(0, -7), true);
        Check.due(x.has(0, 7), false);
        x.take(0, 1);
        Check.due(x.has(0, -7), false);
        Check.due(x.has(0, 0), false);
        Check.due(x.has(1, 0), false);
        Check.due(x.has(0, 10000), false);
        Check.dueLeavesCursors(x, () -> x.has(0, 1));
        Check.dueNoPlace(x, () -> x.has(4, 1));
        Check.dueNoPlace(x, () -> x.has(-1, 1));
    }

    private static void size() {
        Cursorlist x = new Cursorlist();
        Check.due(x.size(3), 0);
        x.places(3, 16);
        Check.due(x.size(3), 16);
        x.take(3, 0);
        Check.due(x.size(3), 15);
        Check.due(x.size(2), 0);
        Check.dueLeavesCursors(x, () -> x.size(3));
        Check.dueNoPlace(x, () -> x.size(4));
        Check.dueNoPlace(x, () -> x.size(-1));
    }

    private static void text() {
        Cursorlist x = Check.with(1, -20, 9999);
        Check.due(x.text(0, false), "1 -20 9999");
        Check.due(x.text(0, true), "9999 -20 1");
        Check.due(x.text(1, false), "");
        Check.due(x.text(1, true), "");
        Check.fill(x, 1, 0);
        Check.due(x.text(1, true), "0");
        Check.dueLeavesCursors(x, () -> x.text(0, true));
        Check.dueNoPlace(x, () -> x.text(4, false));
        Check.dueNoPlace(x, () -> x.text(-1, true));
    }

    private static void clear() {
        Cursorlist x = Check.with(1, 2, 3);
        Check.fill(x, 1, 4);
        Check.due(x.clear(0), 3);
        Check.due(x.clear(0), 0);
        Check.dueText(x, 0, "");
        Check.dueText(x, 1, "4");
        Check.dueMakesStale(x, 1, () -> x.clear(1));
        Check.dueMakesStale(x, 1, () -> x.clear(1));
        Check.dueNoPlace(x, () -> x.clear(4));
        Check.dueNoPlace(x, () -> x.clear(-1));
    }

    private static void append() {
        Cursorlist x = Check.with(1, 2);
        Check.fill(x, 1, 3, 4, 5);
        Check.due(x.append(0, 1), 5);
        Check.dueText(x, 0, "1 2 3 4 5");
        Check.dueText(x, 1, "3 4 5");
        Check.due(x.append(1, 1), 6);
        Check.dueText(x, 1, "3 4 5 3 4 5");
        Check.due(x.append(1, 2), 6);
        Check.dueMakesStale(x, 1, () -> x.append(1, 3));
        Check.dueMakesStale(x, 0, () -> x.append(0, 1));
        Check.due(x.size(0), 11);
        Check.dueRefused(x, () -> x.append(0, 1));
        Check.dueRefused(x, () -> x.append(0, 0));
        Check.dueLeavesCursors(x, () -> x.append(0, 0));
        x.places(2, 5);
        Check.due(x.append(0, 2), 16);
        Check.due(x.append(0, 3), 16);
        Check.dueNoPlace(x, () -> x.append(0, 4));
        Check.dueNoPlace(x, () -> x.append(-1, 0));
    }

    private static void appendAt() {
        Cursorlist x = Check.with(1, 2);
        Check.fill(x, 1, 3, 4, 5);
        Check.due(x.appendAt(0, 1, 1), 5);
        Check.dueText(x, 0, "1 3 4 5 2");
        Check.due(x.appendAt(1, 1, 1), 6);
        Check.dueText(x, 1, "3 3 4 5 4 5");
        Check.due(x.appendAt(0, 0, 2), 5);
        Check.due(x.appendAt(0, 5, 1), 11);
        Check.dueText(x, 0, "1 3 4 5 2 3 3 4 5 4 5");
        Check.dueMakesStale(x, 0, () -> x.appendAt(0, 3, 2));
        Check.dueRefused(x, () -> x.appendAt(0, 3, 1));
        Check.dueLeavesCursors(x, () -> x.appendAt(0, 3, 0));
        Check.dueNoPlace(x, () -> x.appendAt(0, 12, 1));
        Check.dueNoPlace(x, () -> x.appendAt(0, -1, 2));
        Check.dueNoPlace(x, () -> x.appendAt(0, 0, 4));
        Check.dueNoPlace(x, () -> x.appendAt(4, 0, 0));
        Check.due(x.appendAt(2, 0, 1), 6);
        Check.dueText(x, 2, "3 3 4 5 4 5");
    }

    private static void copy() {
        Cursorlist x = Check.with(1, 2, 3);
        Check.fill(x, 1, 7, 8, 9, 10);
        Check.due(x.copy(0, 1), 3);
        Check.dueText(x, 1, "1 2 3");
        x.set(1, 0, 5);
        Check.dueText(x, 0, "1 2 3");
        Check.due(x.copy(0, 0), 3);
        Check.dueText(x, 0, "1 2 3");
        Check.due(x.copy(2, 1), 0);
        Check.dueText(x, 1, "");
        Check.dueMakesStale(x, 3, () -> x.copy(0, 3));
        Check.dueMakesStale(x, 0, () -> x.copy(0, 0));
        Check.dueNoPlace(x, () -> x.copy(4, 0));
        Check.dueNoPlace(x, () -> x.copy(0, 4));
        Check.dueNoPlace(x, () -> x.copy(0, -1));
    }

    private static void places() {
        Cursorlist x = Check.with(9, 9, 9, 9);
        Check.due(x.places(0, 3), 3);
        Check.dueText(x, 0, "0 1 2");
        Check.due(x.places(0, 16), 16);
        Check.dueText(x, 0, "0 1 2 3 4 5 6 7 8 9 10 11 12 13 14 15");
        Check.due(x.places(0, 0), 0);
        Check.dueText(x, 0, "");
        Check.dueMakesStale(x, 0, () -> x.places(0, 0));
        Check.dueMakesStale(x, 2, () -> x.places(2, 8));
        Check.dueNoPlace(x, () -> x.places(4, 17));
        Check.dueNoPlace(x, () -> x.places(-1, 0));
        Check.dueBadArgument(x, () -> x.places(0, 17));
        Check.dueBadArgument(x, () -> x.places(2, -1));
    }

    private static void rotate() {
        Cursorlist x = Check.with(1, 2, 3, 4, 5);
        Check.due(x.rotate(0, 2), 4);
        Check.dueText(x, 0, "4 5 1 2 3");
        Check.due(x.rotate(0, -1), 5);
        Check.dueText(x, 0, "5 1 2 3 4");
        Check.due(x.rotate(0, 0), 5);
        Check.due(x.rotate(0, 99), 1);
        Check.dueText(x, 0, "1 2 3 4 5");
        Check.due(x.rotate(0, -99), 5);
        Check.dueText(x, 0, "5 1 2 3 4");
        Check.due(x.rotate(0, 5), 5);
        Check.due(x.rotate(1, 3), Check.NOTHING);
        Check.due(x.house(3), 0);
        Check.dueMakesStale(x, 0, () -> x.rotate(0, 0));
        Check.dueMakesStale(x, 1, () -> x.rotate(1, 1));
        Check.dueNoPlace(x, () -> x.rotate(4, 100));
        Check.dueNoPlace(x, () -> x.rotate(-1, 0));
        Check.dueBadArgument(x, () -> x.rotate(0, 100));
        Check.dueBadArgument(x, () -> x.rotate(1, -100));
    }

    private static void move() {
        Cursorlist x = Check.with(10, 11, 12, 13);
        Check.due(x.move(0, 0, 2), 10);
        Check.dueText(x, 0, "11 12 10 13");
        Check.due(x.move(0, 3, 0), 13);
        Check.dueText(x, 0, "13 11 12 10");
        Check.due(x.move(0, 0, 3), 13);
        Check.dueText(x, 0, "11 12 10 13");
        Check.due(x.move(0, 1, 1), 12);
        Check.dueText(x, 0, "11 12 10 13");
        Check.dueMakesStale(x, 0, () -> x.move(0, 1, 1));
        Check.dueNoPlace(x, () -> x.move(0, 4, 0));
        Check.dueNoPlace(x, () -> x.move(0, 0, 4));
        Check.dueNoPlace(x, () -> x.move(0, -1, 0));
        Check.dueNoPlace(x, () -> x.move(0, 0, -1));
        Check.dueNoPlace(x, () -> x.move(1, 0, 0));
        Check.dueNoPlace(x, () -> x.move(4, 0, 0));
    }

    private static void swap() {
        Cursorlist x = Check.with(10, 11, 12, 13);
        Check.due(x.swap(0, 0, 3), 13);
        Check.dueText(x, 0, "13 11 12 10");
        Check.due(x.swap(0, 2, 1), 11);
        Check.dueText(x, 0, "13 12 11 10");
        Check.due(x.swap(0, 2, 2), 11);
        Check.dueText(x, 0, "13 12 11 10");
        Check.dueLeavesCursors(x, () -> x.swap(0, 0, 1));
        Check.dueNoPlace(x, () -> x.swap(0, 4, 0));
        Check.dueNoPlace(x, () -> x.swap(0, 0, 4));
        Check.dueNoPlace(x, () -> x.swap(0, -1, 0));
        Check.dueNoPlace(x, () -> x.swap(0, 0, -1));
        Check.dueNoPlace(x, () -> x.swap(1, 0, 0));
        Check.dueNoPlace(x, () -> x.swap(4, 0, 0));
    }

    private static void reverse() {
        Cursorlist x = Check.with(1, 2, 3, 4);
        Check.due(x.reverse(0), 4);
        Check.dueText(x, 0, "4 3 2 1");
        x.take(0, 0);
        Check.due(x.reverse(0), 1);
        Check.dueText(x, 0, "1 2 3");
        Check.due(x.reverse(1), Check.NOTHING);
        Check.due(x.house(3), 0);
        Check.dueLeavesCursors(x, () -> x.reverse(0));
        Check.dueLeavesCursors(x, () -> x.reverse(1));
        Check.dueNoPlace(x, () -> x.reverse(4));
        Check.dueNoPlace(x, () -> x.reverse(-1));
    }

    private static void through() {
        Cursorlist x = Check.with(10, 11, 12);
        Check.fill(x, 1, 2, 0, 2, 1);
        Check.due(x.through(0, 1, 2), 4);
        Check.dueText(x, 2, "12 10 12 11");
        Check.fill(x, 2, 1, 0);
        Check.due(x.through(0, 2, 2), 2);
        Check.dueText(x, 2, "11 10");
        Check.due(x.through(0, 1, 0), 4);
        Check.dueText(x, 0, "12 10 12 11");
        Check.fill(x, 0, 2, 0, 1);
        Check.due(x.through(0, 0, 0), 3);
        Check.dueText(x, 0, "1 2 0");
        Check.dueMakesStale(x, 3, () -> x.through(0, 0, 3));
        Check.fill(x, 1, 0, 3);
        Check.dueRefused(x, () -> x.through(0, 1, 3));
        Check.fill(x, 1, -1);
        Check.dueRefused(x, () -> x.through(0, 1, 0));
        Check.dueLeavesCursors(x, () -> x.through(0, 1, 3));
        x.clear(1);
        x.clear(2);
        Check.dueRefused(x, () -> x.through(1, 0, 3));
        Check.due(x.through(1, 2, 3), 0);
        Check.dueText(x, 3, "");
        Check.dueNoPlace(x, () -> x.through(4, 0, 0));
        Check.dueNoPlace(x, () -> x.through(0, 4, 0));
        Check.dueNoPlace(x, () -> x.through(0, 0, 4));
        Check.dueNoPlace(x, () -> x.through(1, 0, -1));
    }

    private static void areSame() {
        Cursorlist x = Check.with(1, 2, 3);
        Check.fill(x, 1, 1, 2, 3);
        Check.due(x.areSame(0, 1), true);
        Check.due(x.areSame(0, 0), true);
        Check.due(x.areSame(2, 3), true);
        Check.due(x.areSame(0, 2), false);
        x.put(1, 1, 4);
        Check.due(x.areSame(0, 1), false);
        Check.due(x.areSame(1, 0), false);
        Check.fill(x, 1, 1, 2, 4);
        Check.due(x.areSame(0, 1), false);
        Check.fill(x, 1, 2, 1, 3);
        Check.due(x.areSame(0, 1), false);
        Check.fill(x, 1, 7, 2, 3);
        Check.due(x.areSame(0, 1), false);
        Check.dueLeavesCursors(x, () -> x.areSame(0, 1));
        Check.dueNoPlace(x, () -> x.areSame(4, 0));
        Check.dueNoPlace(x, () -> x.areSame(0, 4));
        Check.dueNoPlace(x, () -> x.areSame(0, -1));
    }

    private static void isMirror() {
        Cursorlist x = new Cursorlist();
        Check.due(x.isMirror(0), true);
        Check.fill(x, 0, 5);
        Check.due(x.isMirror(0), true);
        Check.fill(x, 0, 5, 6, 5);
        Check.due(x.isMirror(0), true);
        Check.fill(x, 0, 5, 6, 6, 5);
        Check.due(x.isMirror(0), true);
        Check.fill(x, 0, 5, 6, 7, 5);
        Check.due(x.isMirror(0), false);
        Check.fill(x, 0, 5, 6);
        Check.due(x.isMirror(0), false);
        Check.dueText(x, 0, "5 6");
        Check.dueLeavesCursors(x, () -> x.isMirror(0));
        Check.dueNoPlace(x, () -> x.isMirror(4));
        Check.dueNoPlace(x, () -> x.isMirror(-1));
    }
}
