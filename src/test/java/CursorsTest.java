/** Promises 27 to 35: cursors. */
final class CursorsTest {

    private CursorsTest() {
    }

    public static void main(String[] args) {
        Check.test("promise 27: open", CursorsTest::open);
        Check.test("promise 28: shut", CursorsTest::shut);
        Check.test("promise 29: forth", CursorsTest::forth);
        Check.test("promise 30: back", CursorsTest::back);
        Check.test("promise 31: puts", CursorsTest::puts);
        Check.test("promise 31: puts, the edges", CursorsTest::putsEdges);
        Check.test("promise 32: cuts", CursorsTest::cuts);
        Check.test("promise 32: cuts, the edges", CursorsTest::cutsEdges);
        Check.test("promise 33: changes", CursorsTest::changes);
        Check.test("promise 33: changes, the edges", CursorsTest::changesEdges);
        Check.test("promises 32, 33: LAST is known by its PLACE", CursorsTest::lastByPlace);
        Check.test("promises 32, 33: NOTHING leaves LAST", CursorsTest::lastStays);
        Check.test("promise 34: meet", CursorsTest::meet);
        Check.test("promise 34: meet, LAST of both", CursorsTest::lastOfMeet);
        Check.test("promise 34: meet, the edges", CursorsTest::meetEdges);
        Check.test("promise 35: ofCursor", CursorsTest::ofCursor);
        Check.test("promises 27 to 35: a stale cursor", CursorsTest::stale);
        Check.end();
    }

    private static void open() {
        Cursorlist x = Check.with(1, 2, 3);
        Check.due(x.open(0, 0, 0), 3);
        Check.due(x.open(1, 0, 2), 1);
        Check.due(x.open(2, 0, 3), 0);
        Check.due(x.house(1), 3);
        Check.due(x.forth(1), 3);
        Check.due(x.open(1, 2, 0), 0);
        Check.due(x.ofCursor(1, 0), 2);
        Check.dueRefused(x, () -> x.cuts(1));
        x.open(1, 0, 1);
        Check.due(x.ofCursor(0, 5), 0);
        Check.dueNoPlace(x, () -> x.open(3, 0, 0));
        Check.dueNoPlace(x, () -> x.open(-1, 0, 0));
        Check.dueNoPlace(x, () -> x.open(0, 4, 0));
        Check.dueNoPlace(x, () -> x.open(0, -1, 0));
        Check.dueNoPlace(x, () -> x.open(0, 0, 4));
        Check.dueNoPlace(x, () -> x.open(0, 0, -1));
        Check.dueNoPlace(x, () -> x.open(0, 1, 1));
    }

    private static void shut() {
        Cursorlist x = Check.with(1, 2, 3);
        Check.due(x.shut(0), false);
        x.open(0, 0, 0);
        x.open(1, 0, 0);
        Check.due(x.shut(0), true);
        Check.due(x.house(1), 1);
        Check.due(x.shut(0), false);
        Check.dueBadState(x, () -> x.forth(0));
        Check.due(x.forth(1), 1);
        x.put(0, 0, 0);
        Check.due(x.house(2), 1);
        Check.due(x.shut(1), true);
        Check.due(x.house(2), 0);
        Check.due(x.house(3), 0);
        Check.dueNoPlace(x, () -> x.shut(3));
        Check.dueNoPlace(x, () -> x.shut(-1));
    }

    private static void forth() {
        Cursorlist x = Check.with(1, 2);
        x.open(0, 0, 0);
        Check.due(x.forth(0), 1);
        Check.due(x.ofCursor(0, 1), 1);
        Check.due(x.forth(0), 2);
        Check.due(x.forth(0), Check.NOTHING);
        Check.due(x.ofCursor(0, 1), 2);
        Check.dueLeavesCursors(x, () -> x.open(2, 0, 0) + x.forth(2));
        x.open(0, 1, 0);
        Check.due(x.forth(0), Check.NOTHING);
        Check.due(x.house(3), 0);
        Check.dueText(x, 0, "1 2");
        x.shut(0);
        Check.dueBadState(x, () -> x.forth(0));
        Check.dueNoPlace(x, () -> x.forth(3));
        Check.dueNoPlace(x, () -> x.forth(-1));
        x.open(0, 0, 0);
        x.rotate(0, 0);
        Check.dueRefused(x, () -> x.forth(0));
    }

    private static void back() {
        Cursorlist x = Check.with(1, 2);
        x.open(0, 0, 2);
        Check.due(x.back(0), 2);
        Check.due(x.ofCursor(0, 1), 1);
        Check.due(x.back(0), 1);
        Check.due(x.back(0), Check.NOTHING);
        Check.due(x.ofCursor(0, 1), 0);
        Check.due(x.forth(0), 1);
        Check.due(x.back(0), 1);
        x.open(0, 1, 0);
        Check.due(x.back(0), Check.NOTHING);
        Check.due(x.house(3), 0);
        x.shut(0);
        Check.dueBadState(x, () -> x.back(0));
        Check.dueNoPlace(x, () -> x.back(3));
        Check.dueNoPlace(x, () -> x.back(-1));
        x.open(0, 0, 2);
        x.rotate(0, 0);
        Check.dueRefused(x, () -> x.back(0));
    }

    private static void puts() {
        Cursorlist x = Check.with(1, 2);
        x.open(0, 0, 1);
        x.open(1, 0, 2);
        x.open(2, 1, 0);
        Check.due(x.puts(0, 8), 2);
        Check.due(x.puts(0, 9), 3);
        Check.dueText(x, 0, "1 8 9 2");
        Check.due(x.ofCursor(0, 5), 0);
        Check.due(x.ofCursor(1, 5), 1);
        Check.due(x.ofCursor(2, 5), 0);
        Check.due(x.forth(0), 2);
        Check.due(x.puts(0, 7), 5);
        Check.dueRefused(x, () -> x.cuts(0));
        Check.dueRefused(x, () -> x.changes(0, 1));
        Check.due(x.back(0), 7);
        Check.due(x.puts(2, -9999), 1);
        Check.due(x.puts(2, 9999), 2);
        Check.dueText(x, 1, "-9999 9999");
    }

    private static void putsEdges() {
        Cursorlist x = Check.with(1, 2);
        x.places(3, 15);
        x.open(0, 3, 15);
        Check.due(x.puts(0, 5), 16);
        Check.due(x.back(0), 5);
        Check.dueRefused(x, () -> x.puts(0, 6));
        Check.due(x.changes(0, 4), 15);
        Check.dueLeavesCursors(x, () -> x.open(2, 3, 0) + x.puts(2, 6));
        Check.dueBadArgument(x, () -> x.puts(0, 10000));
        Check.dueBadArgument(x, () -> x.puts(0, -10000));
        x.shut(0);
        Check.dueBadState(x, () -> x.puts(0, 0));
        Check.dueBadArgument(x, () -> x.puts(0, 10000));
        Check.dueNoPlace(x, () -> x.puts(3, 10000));
        Check.dueNoPlace(x, () -> x.puts(-1, 0));
        x.open(0, 0, 0);
        x.take(0, 0);
        Check.dueRefused(x, () -> x.puts(0, 0));
        Check.dueBadArgument(x, () -> x.puts(0, 10000));
    }

    private static void cuts() {
        Cursorlist x = Check.with(1, 2, 3, 4);
        x.open(0, 0, 1);
        x.open(1, 0, 2);
        x.open(2, 1, 0);
        x.forth(0);
        Check.due(x.cuts(0), 1);
        Check.dueText(x, 0, "1 3 4");
        Check.due(x.ofCursor(0, 5), 0);
        Check.due(x.ofCursor(1, 5), 1);
        Check.due(x.ofCursor(2, 5), 0);
        Check.due(x.forth(0), 3);
        Check.due(x.back(0), 3);
        Check.due(x.cuts(0), 1);
        Check.dueText(x, 0, "1 4");
        Check.due(x.back(0), 1);
        Check.due(x.cuts(0), 0);
        Check.dueText(x, 0, "4");
        Check.due(x.forth(0), 4);
        Check.due(x.cuts(0), 0);
        Check.dueText(x, 0, "");
        Check.due(x.ofCursor(0, 3), 0);
    }

    private static void cutsEdges() {
        Cursorlist x = Check.with(1, 2, 3, 4);
        x.open(0, 0, 1);
        Check.dueRefused(x, () -> x.cuts(0));
        x.forth(0);
        x.cuts(0);
        Check.dueRefused(x, () -> x.cuts(0));
        Check.dueLeavesCursors(x, () -> x.open(2, 0, 0) + x.cuts(2));
        x.shut(0);
        Check.dueBadState(x, () -> x.cuts(0));
        Check.dueNoPlace(x, () -> x.cuts(3));
        Check.dueNoPlace(x, () -> x.cuts(-1));
        x.open(0, 0, 0);
        x.forth(0);
        x.move(0, 0, 0);
        Check.dueRefused(x, () -> x.cuts(0));
    }

    private static void changes() {
        Cursorlist x = Check.with(1, 2, 3);
        x.open(0, 0, 1);
        x.open(1, 0, 1);
        x.forth(0);
        Check.due(x.changes(0, 50), 2);
        Check.due(x.changes(0, 51), 2);
        Check.dueText(x, 0, "1 51 3");
        Check.due(x.ofCursor(1, 5), 0);
        Check.due(x.forth(1), 51);
        Check.due(x.back(0), 51);
        Check.due(x.changes(0, -9999), 1);
        Check.due(x.changes(0, 9999), 1);
        Check.dueText(x, 0, "1 9999 3");
        Check.due(x.cuts(0), 1);
        Check.dueText(x, 0, "1 3");
    }

    private static void changesEdges() {
        Cursorlist x = Check.with(1, 2, 3);
        x.open(0, 0, 1);
        Check.dueRefused(x, () -> x.changes(0, 5));
        Check.dueBadArgument(x, () -> x.changes(0, 10000));
        Check.dueBadArgument(x, () -> x.changes(0, -10000));
        x.forth(0);
        x.cuts(0);
        Check.dueRefused(x, () -> x.changes(0, 5));
        x.shut(0);
        Check.dueBadState(x, () -> x.changes(0, 5));
        Check.dueBadArgument(x, () -> x.changes(0, 10000));
        Check.dueNoPlace(x, () -> x.changes(3, 10000));
        Check.dueNoPlace(x, () -> x.changes(-1, 0));
        x.open(0, 0, 0);
        x.forth(0);
        x.thin(0, 77);
        Check.dueRefused(x, () -> x.changes(0, 5));
    }

    private static void lastByPlace() {
        Cursorlist x = Check.with(1, 2, 3, 4);
        x.open(0, 0, 0);
        x.open(1, 0, 4);
        x.forth(0);
        x.back(1);
        x.reverse(0);
        Check.due(x.changes(0, 40), 1);
        Check.dueText(x, 0, "40 3 2 1");
        x.swap(0, 0, 3);
        x.set(0, 2, 20);
        Check.due(x.changes(1, 41), 3);
        Check.dueText(x, 0, "1 3 20 41");
        Check.due(x.cuts(1), 3);
        Check.dueText(x, 0, "1 3 20");
    }

    private static void lastStays() {
        Cursorlist x = Check.with(1, 2);
        x.open(0, 0, 1);
        x.forth(0);
        Check.due(x.forth(0), Check.NOTHING);
        Check.due(x.changes(0, 5), 2);
        Check.due(x.cuts(0), 1);
        x.back(0);
        Check.due(x.back(0), Check.NOTHING);
        Check.due(x.cuts(0), 0);
        Check.dueText(x, 0, "");
    }

    private static void meet() {
        Cursorlist x = Check.with(1, 20, 300, 4000, 5000);
        x.open(0, 0, 0);
        x.open(1, 0, 5);
        Check.due(x.meet(0, 1), 9321);
        Check.due(x.ofCursor(0, 1), 3);
        Check.due(x.ofCursor(1, 1), 3);
        Check.due(x.meet(0, 1), 0);
        Check.due(x.meet(1, 0), 0);
        x.open(0, 0, 1);
        x.open(1, 0, 3);
        Check.due(x.meet(0, 1), 320);
        Check.due(x.ofCursor(0, 1), 2);
        x.open(0, 0, 1);
        x.open(2, 0, 2);
        Check.due(x.meet(0, 2), 20);
        Check.due(x.ofCursor(0, 1), 2);
        Check.due(x.ofCursor(2, 1), 2);
        Check.due(x.house(3), 0);
        Check.due(x.house(2), 0);
        Check.dueText(x, 0, "1 20 300 4000 5000");
    }

    private static void lastOfMeet() {
        Cursorlist x = Check.with(1, 2, 3, 4);
        x.open(0, 0, 0);
        x.open(1, 0, 4);
        Check.due(x.meet(0, 1), 10);
        Check.due(x.changes(0, 60), 2);
        Check.due(x.changes(1, 70), 2);
        Check.dueText(x, 0, "1 60 70 4");
        x.open(0, 0, 2);
        x.open(1, 0, 3);
        x.forth(1);
        x.back(1);
        x.back(1);
        Check.due(x.meet(0, 1), 0);
        Check.dueRefused(x, () -> x.cuts(0));
        Check.due(x.cuts(1), 2);
        Check.dueText(x, 0, "1 60 4");
    }

    private static void meetEdges() {
        Cursorlist x = Check.with(1, 2, 3);
        Check.fill(x, 1, 4, 5, 6);
        x.open(0, 0, 1);
        x.open(1, 0, 2);
        Check.dueRefused(x, () -> x.meet(1, 0));
        x.open(2, 1, 3);
        Check.dueRefused(x, () -> x.meet(0, 2));
        Check.dueBadArgument(x, () -> x.meet(0, 0));
        Check.dueNoPlace(x, () -> x.meet(3, 3));
        Check.dueNoPlace(x, () -> x.meet(0, 3));
        Check.dueNoPlace(x, () -> x.meet(-1, 0));
        x.shut(2);
        Check.dueBadState(x, () -> x.meet(0, 2));
        Check.dueBadState(x, () -> x.meet(2, 0));
        Check.dueBadArgument(x, () -> x.meet(2, 2));
        x.trim(0);
        x.open(1, 0, 2);
        Check.dueRefused(x, () -> x.meet(0, 1));
        x.open(2, 0, 0);
        x.derive(0);
        x.open(0, 0, 0);
        Check.dueRefused(x, () -> x.meet(0, 1));
        Check.dueRefused(x, () -> x.meet(2, 1));
        Check.dueBadArgument(x, () -> x.meet(1, 1));
    }

    private static void ofCursor() {
        Cursorlist x = Check.with(1, 2, 3);
        for (int what = 0; what <= 5; what++) {
            Check.due(x.ofCursor(0, what), Check.NONE);
        }
        x.copy(0, 2);
        x.open(0, 2, 0);
        Check.due(tellAll(x, 0), "2 0 -1 1 0 0");
        x.open(1, 2, 2);
        Check.due(tellAll(x, 1), "2 2 1 1 1 0");
        x.open(2, 2, 3);
        Check.due(tellAll(x, 2), "2 3 2 0 1 0");
        x.open(2, 2, 1);
        Check.due(tellAll(x, 2), "2 1 0 1 1 0");
        x.open(0, 1, 0);
        Check.due(tellAll(x, 0), "1 0 -1 0 0 0");
        x.clear(2);
        Check.due(tellAll(x, 1), "2 -1 -1 -1 -1 1");
        Check.due(tellAll(x, 0), "1 0 -1 0 0 0");
        Check.due(x.house(3), 0);
        x.shut(1);
        Check.due(tellAll(x, 1), "-1 -1 -1 -1 -1 -1");
        Check.dueNoPlace(x, () -> x.ofCursor(3, 6));
        Check.dueNoPlace(x, () -> x.ofCursor(-1, 0));
        Check.dueBadArgument(x, () -> x.ofCursor(0, 6));
        Check.dueBadArgument(x, () -> x.ofCursor(1, -1));
    }

    private static String tellAll(Cursorlist x, int cursor) {
        StringBuilder all = new StringBuilder();
        for (int what = 0; what <= 5; what++) {
            all.append(what == 0 ? "" : " ").append(x.ofCursor(cursor, what));
        }
        return all.toString();
    }

    private static void stale() {
        Cursorlist x = Check.with(1, 2, 3);
        x.open(0, 0, 1);
        x.forth(0);
        x.put(0, 0, 9);
        Check.due(x.house(2), 1);
        Check.dueRefused(x, () -> x.forth(0));
        Check.dueRefused(x, () -> x.back(0));
        Check.dueRefused(x, () -> x.puts(0, 1));
        Check.dueRefused(x, () -> x.cuts(0));
        Check.dueRefused(x, () -> x.changes(0, 1));
        Check.due(x.open(0, 0, 1), 3);
        Check.due(x.house(2), 0);
        Check.due(x.forth(0), 1);
    }
}
