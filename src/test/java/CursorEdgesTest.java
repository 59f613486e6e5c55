import java.util.function.BiFunction;
import java.util.function.Consumer;
import java.util.function.Function;

/** Promises 27 to 35: each boundary case that a sentence names, in a test of its own. */
final class CursorEdgesTest {

    private CursorEdgesTest() {
    }

    public static void main(String[] args) {
        open();
        openInstead();
        shut();
        forth();
        forthAtTheEnd();
        back();
        backAtTheBeginning();
        puts();
        putsInto16();
        cuts();
        cutsWithoutLast();
        changes();
        changesWithoutLast();
        lastByPlace();
        meet();
        meetTurns();
        meetRefused();
        ofCursor();
        ofCursorStale();
        whatMakesStale();
        Check.end();
    }

    /** List 0 is this, and cursor 0 stands there. */
    private static Consumer<Cursorlist> standing(String text, int place) {
        return Edge.lists(text, "3").andThen(x -> x.open(0, 0, place));
    }

    /** So too, and it has gone FORTH once. */
    private static Consumer<Cursorlist> gone(String text, int place) {
        return standing(text, place).andThen(x -> x.forth(0));
    }

    /** So too, and it is STALE. */
    private static Consumer<Cursorlist> stale(String text, int place) {
        return gone(text, place).andThen(x -> x.rotate(0, 0));
    }

    /** A cursor that is not there, and one that is no cursor. */
    private static void needsCursor(String name, BiFunction<Cursorlist, Integer, Object> call) {
        Consumer<Cursorlist> allStand = Edge.watched("4 5", "6 7", "8 9");
        Edge.places(name + ": cursor", 0, 2, allStand, call);
        for (int each = 0; each < 3; each++) {
            int cursor = each;
            Edge.badState(name + ": not there, " + cursor, allStand.andThen(x -> x.shut(cursor)),
                    x -> call.apply(x, cursor));
        }
        Edge.badState(name + ": never there", Edge.lists("4 5"), x -> call.apply(x, 0));
        Edge.badState(name + ": shut when it was STALE", stale("4 5", 0).andThen(x -> x.shut(0)),
                x -> call.apply(x, 0));
    }

    private static Function<Cursorlist, Object> standsThen(Function<Cursorlist, Object> call) {
        return x -> call.apply(x) + " at " + x.ofCursor(0, 1);
    }

    private static void open() {
        Edge.places("27: open: cursor", 0, 2, Edge.lists("4 5"), (x, cursor) -> x.open(cursor, 0, 0));
        Edge.places("27: open: list", 0, 3, Edge.lists("4 5"), (x, list) -> x.open(0, list, 0));
        Edge.places("27: open: place in two", 0, 2, Edge.lists("4 5"), (x, place) -> x.open(0, 0, place));
        Edge.places("27: open: place in none", 0, 0, Edge.lists("", "3"), (x, place) -> x.open(0, 0, place));
        Edge.places("27: open: place in 16", 0, 16, Edge.lists(Edge.SIXTEEN), (x, place) -> x.open(0, 0, place));
        Edge.noPlace("27: open: a place that was", Edge.lists("4 5").andThen(x -> x.take(0, 0)), x -> x.open(0, 0, 2));
        Edge.becomes("27: open: ahead of all", Edge.lists("4 5 6"), standsThen(x -> x.open(0, 0, 0)), "3 at 0",
                "4 5 6");
        Edge.becomes("27: open: between", Edge.lists("4 5 6"), standsThen(x -> x.open(0, 0, 1)), "2 at 1", "4 5 6");
        Edge.becomes("27: open: behind all", Edge.lists("4 5 6"), standsThen(x -> x.open(0, 0, 3)), "0 at 3", "4 5 6");
        Edge.becomes("27: open: over none", Edge.lists(""), standsThen(x -> x.open(0, 0, 0)), "0 at 0");
        Edge.becomes("27: open: ahead of 16", Edge.lists(Edge.SIXTEEN), x -> x.open(0, 0, 0), 16, Edge.SIXTEEN);
        Edge.becomes("27: open: behind 16", Edge.lists(Edge.SIXTEEN), x -> x.open(0, 0, 16), 0, Edge.SIXTEEN);
        Check.test("27: open: leaves other cursors", () -> {
            Cursorlist x = Check.with(4, 5);
            x.open(0, 0, 1);
            x.forth(0);
            x.open(1, 0, 0);
            x.open(2, 0, 2);
            Check.due(x.house(2), 0);
            Check.due(x.changes(0, 9), 2);
            Check.dueText(x, 0, "4 9");
        });
    }

    private static void openInstead() {
        Edge.refuses("27: open instead: LAST is gone", gone("4 5", 0).andThen(x -> x.open(0, 0, 1)), x -> x.cuts(0));
        Edge.tells("27: open instead: not STALE", stale("4 5", 0).andThen(x -> x.open(0, 0, 1)),
                x -> x.ofCursor(0, 5) + " " + x.house(2) + " " + x.house(1), "0 0 1");
        Edge.tells("27: open instead: over another list", gone("4 5", 0).andThen(x -> x.open(0, 1, 1)),
                x -> x.ofCursor(0, 0) + " " + x.ofCursor(0, 1), "1 1");
        Edge.tells("27: open instead: what it was over does not make it STALE",
                gone("4 5", 0).andThen(x -> x.open(0, 1, 0)).andThen(x -> x.clear(0)), x -> x.ofCursor(0, 5), 0);
        Edge.noPlace("27: open that throws leaves the one before: place", gone("4 5", 0), x -> x.open(0, 0, 3));
        Edge.noPlace("27: open that throws leaves the one before: list", gone("4 5", 0), x -> x.open(0, 4, 0));
        Edge.noPlace("27: open that throws leaves a STALE one", stale("4 5", 0), x -> x.open(0, 0, -1));
        Edge.refuses("27: open again after shut: LAST is gone",
                gone("4 5", 0).andThen(x -> x.shut(0)).andThen(x -> x.open(0, 0, 1)), x -> x.changes(0, 9));
        Edge.tells("27: open again after shut: not STALE",
                stale("4 5", 0).andThen(x -> x.shut(0)).andThen(x -> x.open(0, 0, 1)), x -> x.ofCursor(0, 5), 0);
    }

    private static void shut() {
        Edge.places("28: shut: cursor", 0, 2, Edge.watched("4 5", "6"), (x, cursor) -> x.shut(cursor));
        Edge.tells("28: shut: never there", Edge.lists("4 5"), x -> x.shut(0), false);
        Edge.tells("28: shut: twice", gone("4 5", 0).andThen(x -> x.shut(0)), x -> x.shut(0), false);
        Edge.tells("28: shut: another one was there", gone("4 5", 0), x -> x.shut(1), false);
        Edge.becomes("28: shut: there", gone("4 5", 0), x -> x.shut(0) + " " + x.house(1), "true 0", "4 5", "3");
        Edge.becomes("28: shut: a STALE one", stale("4 5", 0), x -> x.shut(0) + " " + x.house(1) + " " + x.house(2),
                "true 0 0", "4 5", "3");
        Check.test("28: shut: leaves other cursors", () -> {
            Cursorlist x = Check.with(4, 5);
            x.open(0, 0, 0);
            x.open(1, 0, 0);
            x.forth(1);
            x.shut(0);
            Check.due(x.changes(1, 9), 1);
            Check.due(x.house(1), 1);
        });
    }

    private static void forth() {
        needsCursor("29: forth", (x, cursor) -> x.forth(cursor));
        Edge.becomes("29: forth: from ahead of all", standing("4 5", 0), standsThen(x -> x.forth(0)), "4 at 1", "4 5",
                "3");
        Edge.becomes("29: forth: to behind all", standing("4 5", 1), standsThen(x -> x.forth(0)), "5 at 2", "4 5", "3");
        Edge.refuses("29: forth: STALE", stale("4 5", 0), x -> x.forth(0));
        Edge.refuses("29: forth: STALE goes ahead of NOTHING", stale("4 5", 1), x -> x.forth(0));
        Edge.leavesCursors("29: forth leaves cursors over it", Edge.lists("4 5"), x -> {
            int place = x.ofCursor(1, 1);
            x.forth(1);
            return x.open(1, x.ofCursor(1, 0), place);
        });
        Check.test("29: forth: through 16, then NOTHING", () -> {
            Cursorlist x = new Cursorlist();
            x.places(0, 16);
            x.open(0, 0, 0);
            for (int item = 0; item < 16; item++) {
                Check.due(x.forth(0), item);
            }
            Check.due(x.forth(0), 10000);
            Check.due(x.ofCursor(0, 1), 16);
        });
    }

    private static void forthAtTheEnd() {
        Edge.tells("29: forth: NOTHING behind: it stays, and so does LAST", gone("4 5", 1), x -> x.forth(0), 10000);
        Edge.tells("29: forth: NOTHING twice", gone("4 5", 1), x -> x.forth(0) + x.forth(0), 20000);
        Edge.tells("29: forth: NOTHING behind, and LAST is none", standing("4 5", 2), x -> x.forth(0), 10000);
        Edge.tells("29: forth: NOTHING over none", standing("", 0), x -> x.forth(0), 10000);
        Edge.becomes("29: forth: after NOTHING LAST can be cut", gone("4 5", 1), x -> x.forth(0) + " " + x.cuts(0),
                "10000 1", "4", "3");
    }

    private static void back() {
        needsCursor("30: back", (x, cursor) -> x.back(cursor));
        Edge.becomes("30: back: from behind all", standing("4 5", 2), standsThen(x -> x.back(0)), "5 at 1", "4 5", "3");
        Edge.becomes("30: back: to ahead of all", standing("4 5", 1), standsThen(x -> x.back(0)), "4 at 0", "4 5", "3");
        Edge.becomes("30: back: what forth told", gone("4 5", 0), standsThen(x -> x.back(0)), "4 at 0", "4 5", "3");
        Edge.refuses("30: back: STALE", stale("4 5", 0), x -> x.back(0));
        Edge.refuses("30: back: STALE goes ahead of NOTHING", standing("4 5", 0).andThen(x -> x.trim(0)),
                x -> x.back(0));
        Edge.leavesCursors("30: back leaves cursors over it", Edge.lists("4 5"), x -> {
            int place = x.ofCursor(1, 1);
            x.back(1);
            return x.open(1, x.ofCursor(1, 0), place);
        });
        Check.test("30: back: through 16, then NOTHING", () -> {
            Cursorlist x = new Cursorlist();
            x.places(0, 16);
            x.open(0, 0, 16);
            for (int item = 15; item >= 0; item--) {
                Check.due(x.back(0), item);
            }
            Check.due(x.back(0), 10000);
            Check.due(x.ofCursor(0, 1), 0);
        });
    }

    private static void backAtTheBeginning() {
        Consumer<Cursorlist> atTheBeginning = gone("4 5", 0).andThen(x -> x.back(0));
        Edge.tells("30: back: NOTHING ahead: it stays, and so does LAST", atTheBeginning, x -> x.back(0), 10000);
        Edge.tells("30: back: NOTHING twice", atTheBeginning, x -> x.back(0) + x.back(0), 20000);
        Edge.tells("30: back: NOTHING ahead, and LAST is none", standing("4 5", 0), x -> x.back(0), 10000);
        Edge.tells("30: back: NOTHING over none", standing("", 0), x -> x.back(0), 10000);
        Edge.becomes("30: back: after NOTHING LAST can be cut", atTheBeginning, x -> x.back(0) + " " + x.cuts(0),
                "10000 0", "5", "3");
    }

    private static void puts() {
        needsCursor("31: puts", (x, cursor) -> x.puts(cursor, 9));
        Edge.arguments("31: puts: item", -9999, 9999, gone("4 5", 0), (x, item) -> x.puts(0, item));
        Edge.noPlace("31: puts: the cursor goes ahead of the item", gone("4 5", 0), x -> x.puts(3, 10000));
        Edge.badArgument("31: puts: the item goes ahead of its not being there", Edge.lists("4"),
                x -> x.puts(0, 10000));
        Edge.badArgument("31: puts: the item goes ahead of STALE", stale("4 5", 0), x -> x.puts(0, -10000));
        Edge.refuses("31: puts: STALE", stale("4 5", 0), x -> x.puts(0, 9));
        Edge.becomes("31: puts: over none", standing("", 0), standsThen(x -> x.puts(0, 9)), "1 at 1", "9", "3");
        Edge.becomes("31: puts: ahead of all", standing("4 5", 0), standsThen(x -> x.puts(0, 9999)), "1 at 1",
                "9999 4 5", "3");
        Edge.becomes("31: puts: between", standing("4 5", 1), standsThen(x -> x.puts(0, -9999)), "2 at 2", "4 -9999 5",
                "3");
        Edge.becomes("31: puts: behind all", standing("4 5", 2), standsThen(x -> x.puts(0, 9)), "3 at 3", "4 5 9", "3");
        Edge.becomes("31: puts: stands behind that", standing("4 5", 1), x -> x.puts(0, 9) + " " + x.forth(0), "2 5",
                "4 9 5", "3");
        Edge.refuses("31: puts: no LAST then, after forth", gone("4 5", 0).andThen(x -> x.puts(0, 9)), x -> x.cuts(0));
        Edge.refuses("31: puts: no LAST then, after back",
                standing("4 5", 1).andThen(x -> x.back(0)).andThen(x -> x.puts(0, 9)), x -> x.changes(0, 8));
        Edge.tells("31: puts: does not make itself STALE", standing("4 5", 1).andThen(x -> x.puts(0, 9)),
                x -> x.ofCursor(0, 5), 0);
    }

    private static void putsInto16() {
        Edge.becomes("31: puts: into 15", standing(Edge.FIFTEEN, 15), x -> x.puts(0, 15), 16, Edge.SIXTEEN, "3");
        Edge.becomes("31: puts: ahead of 15", standing(Edge.FIFTEEN, 0), x -> x.puts(0, 9), 1, "9 " + Edge.FIFTEEN,
                "3");
        Edge.refuses("31: puts: into 16, ahead", standing(Edge.SIXTEEN, 0), x -> x.puts(0, 9));
        Edge.refuses("31: puts: into 16, behind", standing(Edge.SIXTEEN, 16), x -> x.puts(0, 9));
        Edge.refuses("31: puts: into 16, and LAST stays", gone(Edge.SIXTEEN, 4), x -> x.puts(0, 9));
        Edge.refuses("31: puts: into 16 and STALE is counted once", stale(Edge.SIXTEEN, 4), x -> x.puts(0, 9));
        Edge.badArgument("31: puts: the item goes ahead of REFUSED", gone(Edge.SIXTEEN, 4), x -> x.puts(0, 10000));
        Edge.badState("31: puts: not there goes ahead of 16", Edge.lists(Edge.SIXTEEN), x -> x.puts(0, 9));
        Edge.refuses("31: puts: into 16 leaves other cursors", gone(Edge.SIXTEEN, 4).andThen(x -> x.open(1, 0, 2)),
                x -> x.puts(1, 9));
    }

    private static void cuts() {
        needsCursor("32: cuts", (x, cursor) -> x.cuts(cursor));
        Edge.becomes("32: cuts: the first, after forth", gone("4 5 6", 0), standsThen(x -> x.cuts(0)), "0 at 0", "5 6",
                "3");
        Edge.becomes("32: cuts: the last, after forth", gone("4 5 6", 2), standsThen(x -> x.cuts(0)), "2 at 2", "4 5",
                "3");
        Edge.becomes("32: cuts: the first, after back", standing("4 5 6", 1).andThen(x -> x.back(0)),
                standsThen(x -> x.cuts(0)), "0 at 0", "5 6", "3");
        Edge.becomes("32: cuts: the last, after back", standing("4 5 6", 3).andThen(x -> x.back(0)),
                standsThen(x -> x.cuts(0)), "2 at 2", "4 5", "3");
        Edge.becomes("32: cuts: the only one", gone("4", 0), standsThen(x -> x.cuts(0)), "0 at 0", "", "3");
        Edge.becomes("32: cuts: the only one, after back", standing("4", 1).andThen(x -> x.back(0)),
                standsThen(x -> x.cuts(0)), "0 at 0", "", "3");
        Edge.becomes("32: cuts: the last of 16", gone(Edge.SIXTEEN, 15), x -> x.cuts(0), 15, Edge.FIFTEEN, "3");
        Edge.becomes("32: cuts: the first of 16", gone("9 " + Edge.FIFTEEN, 0), x -> x.cuts(0), 0, Edge.FIFTEEN, "3");
        Edge.tells("32: cuts: does not make itself STALE", gone("4 5", 0).andThen(x -> x.cuts(0)),
                x -> x.ofCursor(0, 5), 0);
        Edge.becomes("32: cuts: goes on from there", gone("4 5 6", 0),
                x -> x.cuts(0) + " " + x.forth(0) + " " + x.cuts(0), "0 5 0", "6", "3");
    }

    private static void cutsWithoutLast() {
        Edge.refuses("32: cuts: LAST is none at first", standing("4 5", 1), x -> x.cuts(0));
        Edge.refuses("32: cuts: LAST is none since it put", gone("4 5", 0).andThen(x -> x.puts(0, 9)), x -> x.cuts(0));
        Edge.refuses("32: cuts: LAST is none since it cut", gone("4 5 6", 1).andThen(x -> x.cuts(0)), x -> x.cuts(0));
        Edge.refuses("32: cuts: LAST is none since it cut, after back",
                standing("4 5 6", 2).andThen(x -> x.back(0)).andThen(x -> x.cuts(0)), x -> x.cuts(0));
        Edge.refuses("32: cuts: NOTHING is no LAST", standing("4 5", 2).andThen(x -> x.forth(0)), x -> x.cuts(0));
        Edge.refuses("32: cuts: over none", standing("", 0).andThen(x -> x.back(0)), x -> x.cuts(0));
        Edge.refuses("32: cuts: STALE, with LAST", stale("4 5", 0), x -> x.cuts(0));
        Edge.refuses("32: cuts: STALE and without LAST is counted once",
                standing("4 5", 1).andThen(x -> x.rotate(0, 0)), x -> x.cuts(0));
        Edge.refuses("32: cuts: REFUSED leaves other cursors", gone("4 5", 0).andThen(x -> x.open(1, 0, 2)),
                x -> x.cuts(1));
        Edge.becomes("32: cuts: a LAST told since it cut", gone("4 5 6", 1).andThen(x -> x.cuts(0)),
                x -> x.back(0) + " " + x.cuts(0), "4 0", "6", "3");
        Edge.becomes("32: cuts: a LAST told since it put", gone("4 5 6", 0).andThen(x -> x.puts(0, 9)),
                x -> x.back(0) + " " + x.cuts(0), "9 1", "4 5 6", "3");
    }

    private static void changes() {
        needsCursor("33: changes", (x, cursor) -> x.changes(cursor, 9));
        Edge.arguments("33: changes: item", -9999, 9999, gone("4 5", 0), (x, item) -> x.changes(0, item));
        Edge.noPlace("33: changes: the cursor goes ahead of the item", gone("4 5", 0), x -> x.changes(3, 10000));
        Edge.badArgument("33: changes: the item goes ahead of its not being there", Edge.lists("4"),
                x -> x.changes(0, 10000));
        Edge.badArgument("33: changes: the item goes ahead of STALE", stale("4 5", 0), x -> x.changes(0, 10000));
        Edge.badArgument("33: changes: the item goes ahead of no LAST", standing("4 5", 0), x -> x.changes(0, -10000));
        Edge.becomes("33: changes: the first, after forth", gone("4 5", 0), standsThen(x -> x.changes(0, 9999)),
                "1 at 1", "9999 5", "3");
        Edge.becomes("33: changes: the last, after forth", gone("4 5", 1), standsThen(x -> x.changes(0, -9999)),
                "2 at 2", "4 -9999", "3");
        Edge.becomes("33: changes: the first, after back", gone("4 5", 0).andThen(x -> x.back(0)),
                standsThen(x -> x.changes(0, 9)), "0 at 0", "9 5", "3");
        Edge.becomes("33: changes: the last, after back", standing("4 5", 2).andThen(x -> x.back(0)),
                standsThen(x -> x.changes(0, 9)), "1 at 1", "4 9", "3");
        Edge.becomes("33: changes: of 16", gone(Edge.SIXTEEN, 15), x -> x.changes(0, 9), 16, Edge.FIFTEEN + " 9", "3");
        Edge.becomes("33: changes: that is LAST then", gone("4 5", 0), x -> x.changes(0, 9) + " " + x.changes(0, 8),
                "1 1", "8 5", "3");
        Edge.becomes("33: changes: that is LAST then, and is cut", gone("4 5", 0),
                x -> x.changes(0, 9) + " " + x.cuts(0), "1 0", "5", "3");
        Edge.leavesCursors("33: changes leaves cursors over it", Edge.lists("4 5", "6 7", "8", "9"), x -> {
            int list = x.ofCursor(1, 0);
            int place = x.ofCursor(1, 1);
            x.open(1, list, 0);
            x.forth(1);
            x.changes(1, 55);
            return x.open(1, list, place);
        });
    }

    private static void changesWithoutLast() {
        Edge.refuses("33: changes: LAST is none at first", standing("4 5", 1), x -> x.changes(0, 9));
        Edge.refuses("33: changes: LAST is none since it put", gone("4 5", 0).andThen(x -> x.puts(0, 9)),
                x -> x.changes(0, 8));
        Edge.refuses("33: changes: LAST is none since it cut", gone("4 5 6", 0).andThen(x -> x.cuts(0)),
                x -> x.changes(0, 8));
        Edge.refuses("33: changes: NOTHING is no LAST", standing("4 5", 0).andThen(x -> x.back(0)),
                x -> x.changes(0, 8));
        Edge.refuses("33: changes: STALE, with LAST", stale("4 5", 0), x -> x.changes(0, 8));
        Edge.refuses("33: changes: STALE and without LAST is counted once",
                standing("4 5", 1).andThen(x -> x.rotate(0, 0)), x -> x.changes(0, 8));
    }

    private static void lastByPlace() {
        Edge.becomes("Description 2: LAST after set is what stands there", gone("4 5 6", 0), x -> {
            x.set(0, 0, 7);
            return x.back(0) + " " + x.cuts(0);
        }, "7 0", "5 6", "3");
        Edge.becomes("Description 2: LAST after swap is what stands there", gone("4 5 6", 0), x -> {
            x.swap(0, 0, 1);
            return x.cuts(0);
        }, 0, "4 6", "3");
        Edge.becomes("Description 2: LAST after reverse is what stands there", gone("4 5 6", 0), x -> {
            x.reverse(0);
            return x.cuts(0);
        }, 0, "5 4", "3");
        Edge.becomes("Description 2: LAST after another's CHANGES is what stands there", gone("4 5 6", 0), x -> {
            x.open(1, 0, 1);
            x.back(1);
            x.changes(1, 9);
            return x.changes(0, 8) + " " + x.forth(1);
        }, "1 8", "8 5 6", "3");
        Edge.becomes("Description 2: the later one told is LAST", gone("4 5 6", 0), x -> {
            x.forth(0);
            return x.changes(0, 9);
        }, 2, "4 9 6", "3");
        Edge.becomes("Description 2: told forth and back, LAST is behind", gone("4 5 6", 0), x -> {
            x.forth(0);
            x.back(0);
            return x.changes(0, 9);
        }, 1, "4 9 6", "3");
    }

    /** Cursors 0 and 1 over list 0. */
    private static Consumer<Cursorlist> two(String text, int a, int b) {
        return standing(text, a).andThen(x -> x.open(1, 0, b));
    }

    private static Function<Cursorlist, Object> met() {
        return x -> x.meet(0, 1) + " at " + x.ofCursor(0, 1) + " " + x.ofCursor(1, 1);
    }

    private static void meet() {
        Consumer<Cursorlist> three = two("4 5", 0, 1).andThen(x -> x.open(2, 0, 2));
        Edge.places("34: meet: cursor", 0, 2, three, (x, a) -> x.meet(a, 1));
        Edge.places("34: meet: other", 0, 2, three, (x, b) -> x.meet(1, b));
        Edge.noPlace("34: meet: both no cursor, and the same", three, x -> x.meet(3, 3));
        Edge.noPlace("34: meet: other is no cursor, and the one is not there", Edge.lists("4"), x -> x.meet(0, 3));
        Edge.badArgument("34: meet: the same", three, x -> x.meet(0, 0));
        Edge.badArgument("34: meet: the same goes ahead of its not being there", Edge.lists("4"), x -> x.meet(2, 2));
        Edge.badArgument("34: meet: the same goes ahead of STALE", stale("4 5", 0), x -> x.meet(0, 0));
        Edge.badState("34: meet: the one is not there", three.andThen(x -> x.shut(0)), x -> x.meet(0, 1));
        Edge.badState("34: meet: the other is not there", three.andThen(x -> x.shut(1)), x -> x.meet(0, 1));
        Edge.badState("34: meet: both are not there", Edge.lists("4"), x -> x.meet(0, 1));
        Edge.badState("34: meet: not there goes ahead of STALE", stale("4 5", 0), x -> x.meet(0, 1));
        Edge.badState("34: meet: not there goes ahead of STALE of the other", stale("4 5", 0), x -> x.meet(1, 0));
    }

    private static void meetTurns() {
        Edge.tells("34: meet: at the same INDEX", two("4 5", 1, 1), met(), "0 at 1 1");
        Edge.tells("34: meet: at the same INDEX, the other way", two("4 5", 1, 1), x -> x.meet(1, 0), 0);
        Edge.tells("34: meet: at the same INDEX LAST of both stays",
                gone("4 5", 0).andThen(x -> x.open(1, 0, 2)).andThen(x -> x.back(1)), x -> x.meet(0, 1), 0);
        Edge.tells("34: meet: over none", two("", 0, 0), x -> x.meet(0, 1), 0);
        Edge.becomes("34: meet: one between: a goes, b stays", two("4 5 60", 1, 2), met(), "5 at 2 2", "4 5 60", "3");
        Edge.becomes("34: meet: two between: a goes, then b", two("4 5 60", 1, 3), met(), "65 at 2 2", "4 5 60", "3");
        Edge.becomes("34: meet: three between: a goes twice", two("4 5 60", 0, 3), met(), "69 at 2 2", "4 5 60", "3");
        Edge.becomes("34: meet: 16 between", two(Edge.SIXTEEN, 0, 16), met(), "120 at 8 8", Edge.SIXTEEN, "3");
        Edge.becomes("34: meet: the largest sum", two(Edge.times(16, 9999), 0, 16), met(), "159984 at 8 8",
                Edge.times(16, 9999), "3");
        Edge.becomes("34: meet: the least sum", two(Edge.times(15, -9999), 0, 15), met(), "-149985 at 8 8",
                Edge.times(15, -9999), "3");
        Edge.becomes("34: meet: LAST of a and of b", two("4 5 6 7", 0, 4), x -> {
            x.meet(0, 1);
            return x.changes(0, 80) + " " + x.changes(1, 90);
        }, "2 2", "4 80 90 7", "3");
        Edge.refuses("34: meet: one between, b has no LAST by it", two("4 5", 0, 1).andThen(x -> x.meet(0, 1)),
                x -> x.cuts(1));
        Edge.tells("34: meet: none is STALE by it", two("4 5 6", 0, 3).andThen(x -> x.meet(0, 1)), x -> x.house(2), 0);
    }

    private static void meetRefused() {
        Edge.refuses("34: meet: a is behind b", two("4 5", 2, 1), x -> x.meet(0, 1));
        Edge.refuses("34: meet: over different lists", gone("4 5", 0).andThen(x -> x.open(1, 1, 1)), x -> x.meet(0, 1));
        Edge.refuses("34: meet: a is STALE", stale("4 5", 0).andThen(x -> x.open(1, 0, 2)), x -> x.meet(0, 1));
        Edge.refuses("34: meet: b is STALE", stale("4 5", 1).andThen(x -> x.open(1, 0, 0)), x -> x.meet(1, 0));
        Edge.refuses("34: meet: both are STALE, counted once", two("4 5", 0, 2).andThen(x -> x.trim(0)),
                x -> x.meet(0, 1));
        Edge.refuses("34: meet: STALE at the same INDEX", two("4 5", 1, 1).andThen(x -> x.trim(0)), x -> x.meet(0, 1));
        Edge.refuses("34: meet: STALE, over different lists, and behind",
                stale("4 5", 1).andThen(x -> x.open(1, 1, 0)), x -> x.meet(0, 1));
        Edge.refuses("34: meet: LAST of both stays",
                gone("4 5", 1).andThen(x -> x.open(1, 0, 1)).andThen(x -> x.back(1)), x -> x.meet(0, 1));
    }

    private static String tellAll(Cursorlist x, int cursor) {
        StringBuilder all = new StringBuilder();
        for (int what = 0; what <= 5; what++) {
            all.append(what == 0 ? "" : " ").append(x.ofCursor(cursor, what));
        }
        return all.toString();
    }

    private static void ofCursor() {
        Edge.places("35: ofCursor: cursor", 0, 2, Edge.watched("4", "5"), (x, cursor) -> x.ofCursor(cursor, 0));
        Edge.arguments("35: ofCursor: what", 0, 5, Edge.watched("4", "5"), (x, what) -> x.ofCursor(0, what));
        Edge.arguments("35: ofCursor: what of one that is not there", 0, 5, Edge.lists("4"),
                (x, what) -> x.ofCursor(0, what));
        Edge.arguments("35: ofCursor: what of a STALE one", 0, 5, stale("4", 0), (x, what) -> x.ofCursor(0, what));
        Edge.noPlace("35: ofCursor: the cursor goes ahead of what", Edge.watched("4"), x -> x.ofCursor(3, 6));
        Edge.tells("35: ofCursor: never there", Edge.lists("4"), x -> tellAll(x, 0), "-1 -1 -1 -1 -1 -1");
        Edge.tells("35: ofCursor: shut", gone("4 5", 0).andThen(x -> x.shut(0)), x -> tellAll(x, 0),
                "-1 -1 -1 -1 -1 -1");
        Edge.tells("35: ofCursor: ahead of all", standing("4 5", 0), x -> tellAll(x, 0), "0 0 -1 1 0 0");
        Edge.tells("35: ofCursor: between", standing("4 5", 1), x -> tellAll(x, 0), "0 1 0 1 1 0");
        Edge.tells("35: ofCursor: behind all", standing("4 5", 2), x -> tellAll(x, 0), "0 2 1 0 1 0");
        Edge.tells("35: ofCursor: over none", standing("", 0), x -> tellAll(x, 0), "0 0 -1 0 0 0");
        Edge.tells("35: ofCursor: behind 16", standing(Edge.SIXTEEN, 16), x -> tellAll(x, 0), "0 16 15 0 1 0");
        Edge.tells("35: ofCursor: over the last list", Edge.lists("", "", "", "4").andThen(x -> x.open(2, 3, 0)),
                x -> tellAll(x, 2), "3 0 -1 1 0 0");
        Edge.tells("35: ofCursor: what it cut to has none", gone("4", 0).andThen(x -> x.cuts(0)), x -> tellAll(x, 0),
                "0 0 -1 0 0 0");
    }

    private static void ofCursorStale() {
        Edge.tells("35: ofCursor: STALE", stale("4 5", 0), x -> tellAll(x, 0), "0 -1 -1 -1 -1 1");
        Edge.tells("35: ofCursor: STALE over the last list",
                Edge.lists("", "", "", "4").andThen(x -> x.open(2, 3, 0)).andThen(x -> x.clear(3)), x -> tellAll(x, 2),
                "3 -1 -1 -1 -1 1");
        Edge.tells("35: ofCursor: STALE, and shut", stale("4 5", 0).andThen(x -> x.shut(0)), x -> tellAll(x, 0),
                "-1 -1 -1 -1 -1 -1");
        Edge.tells("35: ofCursor: of a STALE one nothing is REFUSED", stale("4 5", 0),
                x -> x.ofCursor(0, 1) + x.ofCursor(0, 2) + x.ofCursor(0, 3) + x.ofCursor(0, 4), -4);
    }

    private static void whatMakesStale() {
        Consumer<Cursorlist> others = two("4 5 6", 1, 2).andThen(x -> x.open(2, 1, 0)).andThen(x -> x.forth(0));
        Edge.tells("Description 2: PUT of another one makes stale", others.andThen(x -> x.puts(0, 9)),
                x -> x.ofCursor(0, 5) + " " + x.ofCursor(1, 5) + " " + x.ofCursor(2, 5), "0 1 0");
        Edge.tells("Description 2: CUT of another one makes stale", others.andThen(x -> x.cuts(0)),
                x -> x.ofCursor(0, 5) + " " + x.ofCursor(1, 5) + " " + x.ofCursor(2, 5), "0 1 0");
        Edge.tells("Description 2: CHANGES of another one does not", others.andThen(x -> x.changes(0, 9)),
                x -> x.ofCursor(0, 5) + " " + x.ofCursor(1, 5) + " " + x.ofCursor(2, 5), "0 0 0");
        Edge.tells("Description 2: PUT of a STALE one does not",
                stale("4 5 6", 0).andThen(x -> x.open(1, 0, 0)).andThen(x -> x.puts(0, 9)), x -> x.ofCursor(1, 5), 0);
        Edge.tells("Description 2: CUT of a STALE one does not",
                stale("4 5 6", 0).andThen(x -> x.open(1, 0, 0)).andThen(x -> x.cuts(0)), x -> x.ofCursor(1, 5), 0);
        Edge.tells("Description 2: what was done before it was opened does not",
                Edge.lists("4 5").andThen(x -> x.rotate(0, 1)).andThen(x -> x.open(0, 0, 0)), x -> x.ofCursor(0, 5), 0);
        Edge.tells("Description 2: STALE stays, whatever is done since", stale("4 5", 0).andThen(x -> x.reverse(0)),
                x -> x.ofCursor(0, 5), 1);
    }
}
