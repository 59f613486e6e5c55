/** Promises 43 to 47: recency. */
final class RecencyTest {

    private RecencyTest() {
    }

    public static void main(String[] args) {
        Check.test("promise 43: ask", RecencyTest::ask);
        Check.test("promise 43: ask, the edges", RecencyTest::askEdges);
        Check.test("promise 44: forget", RecencyTest::forget);
        Check.test("promise 45: asked", RecencyTest::asked);
        Check.test("promise 46: recent", RecencyTest::recent);
        Check.test("promise 47: byOrder", RecencyTest::byOrder);
        Check.test("promise 47: byOrder, what is no ORDER", RecencyTest::noOrder);
        Check.end();
    }

    private static void ask() {
        Cursorlist x = new Cursorlist();
        Check.due(x.ask(7), 8);
        Check.due(x.recent(), "7 0 1 2 3 4 5 6");
        Check.due(x.ask(7), 1);
        Check.due(x.ask(0), 2);
        Check.due(x.ask(3), 5);
        Check.due(x.recent(), "3 0 7 1 2 4 5 6");
        Check.due(x.ask(6), 8);
        Check.due(x.ask(7), 4);
        Check.due(x.recent(), "7 6 3 0 1 2 4 5");
        Check.dueLeavesCursors(x, () -> x.ask(1));
    }

    private static void askEdges() {
        Cursorlist x = new Cursorlist();
        Check.dueBadArgument(x, () -> x.ask(8));
        Check.dueBadArgument(x, () -> x.ask(-1));
        for (int asking = 0; asking < 60; asking++) {
            Check.due(x.ask(asking % 8), asking < 8 ? asking % 8 + 1 : 8);
        }
        Check.dueBadState(x, () -> x.ask(0));
        Check.dueBadArgument(x, () -> x.ask(8));
        Check.due(x.asked(0), 60);
        Check.due(x.house(3), 0);
        Check.due(x.forget(), 60);
        Check.due(x.ask(7), 8);
    }

    private static void forget() {
        Cursorlist x = new Cursorlist();
        Check.due(x.forget(), 0);
        x.ask(5);
        x.ask(0);
        x.ask(7);
        x.places(0, 8);
        Check.due(x.forget(), 3);
        Check.due(x.forget(), 0);
        Check.due(x.recent(), "0 1 2 3 4 5 6 7");
        Check.due(x.asked(0), 0);
        Check.due(x.asked(1), 0);
        Check.due(x.asked(2), Check.NONE);
        Check.due(x.asked(3), 7);
        Check.due(x.byOrder(0, 0), 0);
        Check.due(x.byOrder(0, 2), 0);
        Check.dueLeavesCursors(x, x::forget);
    }

    private static void asked() {
        Cursorlist x = new Cursorlist();
        Check.due(x.asked(2), Check.NONE);
        Check.due(x.asked(3), 7);
        x.ask(7);
        x.ask(2);
        x.ask(2);
        Check.due(x.asked(0), 3);
        Check.due(x.asked(1), 13);
        Check.due(x.asked(2), 2);
        Check.due(x.asked(3), 6);
        Check.due(x.asked(0), 3);
        Check.dueBadArgument(x, () -> x.asked(4));
        Check.dueBadArgument(x, () -> x.asked(-1));
    }

    private static void recent() {
        Cursorlist x = new Cursorlist();
        Check.due(x.recent(), "0 1 2 3 4 5 6 7");
        x.ask(4);
        Check.due(x.recent(), "4 0 1 2 3 5 6 7");
        x.ask(7);
        x.ask(4);
        Check.due(x.recent(), "4 7 0 1 2 3 5 6");
        Check.dueBadArgument(x, () -> x.ask(9));
        Check.due(x.recent(), "4 7 0 1 2 3 5 6");
    }

    private static void byOrder() {
        Cursorlist x = Check.with(7, 0, 1, 2, 3, 4, 6, 5);
        for (int key : new int[] {7, 7, 5, 0, 7}) {
            x.ask(key);
        }
        Check.due(x.byOrder(0, 0), 1 + 1 + 8 + 2 + 1);
        Check.due(x.byOrder(0, 1), 8);
        Check.due(x.byOrder(0, 2), 2 * 13 - 5 + 8);
        x.places(1, 8);
        Check.due(x.byOrder(1, 0), 8 + 8 + 6 + 1 + 8);
        Check.due(x.byOrder(1, 1), 0);
        Check.due(x.byOrder(1, 2), 2 * 31 - 5);
        x.reverse(1);
        Check.due(x.byOrder(1, 1), 28);
        Check.due(x.house(3), 0);
        Check.dueLeavesCursors(x, () -> x.byOrder(0, 2));
    }

    private static void noOrder() {
        Cursorlist x = new Cursorlist();
        Check.dueRefused(x, () -> x.byOrder(0, 0));
        Check.fill(x, 0, 0, 1, 2, 3, 4, 5, 6, 6);
        Check.dueRefused(x, () -> x.byOrder(0, 1));
        x.places(0, 9);
        Check.dueRefused(x, () -> x.byOrder(0, 2));
        Check.fill(x, 0, 0, 1, 2, 3, 4, 5, 6, 7, 0);
        Check.dueRefused(x, () -> x.byOrder(0, 0));
        x.places(0, 7);
        Check.dueRefused(x, () -> x.byOrder(0, 0));
        Check.fill(x, 0, 1, 2, 3, 4, 5, 6, 7, 8);
        Check.dueRefused(x, () -> x.byOrder(0, 0));
        Check.fill(x, 0, 0, 1, 2, -3, 4, 5, 6, 7);
        Check.dueRefused(x, () -> x.byOrder(0, 1));
        Check.dueNoPlace(x, () -> x.byOrder(4, 3));
        Check.dueNoPlace(x, () -> x.byOrder(-1, 0));
        Check.dueBadArgument(x, () -> x.byOrder(0, 3));
        Check.dueBadArgument(x, () -> x.byOrder(0, -1));
    }
}
