import java.util.function.Consumer;

/** Promises 43 to 47: each boundary case that a sentence names, in a test of its own. */
final class RecencyEdgesTest {

    private RecencyEdgesTest() {
    }

    public static void main(String[] args) {
        ask();
        askThe60th();
        forget();
        asked();
        recent();
        byOrder();
        byOrderOfNoOrder();
        Check.end();
    }

    /** These keys were asked, one after another; the lists are these, and watched. */
    private static Consumer<Cursorlist> asking(String keys, String... texts) {
        return Edge.watched(texts).andThen(x -> {
            for (char key : keys.toCharArray()) {
                x.ask(key - '0');
            }
        });
    }

    /** So many askings, of the keys 0 to 7 in turn. */
    private static Consumer<Cursorlist> askings(int many, String... texts) {
        return asking("01234567".repeat(8).substring(0, many), texts);
    }

    private static void ask() {
        Edge.arguments("43: ask: key", 0, 7, asking("3"), (x, key) -> x.ask(key));
        Edge.becomes("43: ask: the first key costs 1", Edge.lists("4"), x -> x.ask(0) + " " + x.recent(),
                "1 0 1 2 3 4 5 6 7", "4");
        Edge.becomes("43: ask: the last key costs 8", Edge.lists("4"), x -> x.ask(7) + " " + x.recent(),
                "8 7 0 1 2 3 4 5 6", "4");
        Edge.becomes("43: ask: the same key again costs 1", asking("5"), x -> x.ask(5) + " " + x.recent(),
                "1 5 0 1 2 3 4 6 7");
        Edge.becomes("43: ask: one that came to the end costs 8", asking("1234567"), x -> x.ask(0) + " " + x.recent(),
                "8 0 7 6 5 4 3 2 1");
        Edge.leavesCursors("43: ask leaves cursors", Edge.lists("4 5"), x -> x.ask(3));
    }

    private static void askThe60th() {
        Edge.becomes("43: ask: the 60th", askings(59), x -> x.ask(7) + " " + x.asked(0), "4 60");
        Edge.badState("43: ask: the 61st", askings(60), x -> x.ask(0));
        Edge.badState("43: ask: the 61st, of the key that is first", askings(60), x -> x.ask(3));
        Edge.badState("43: ask: the 61st, twice", askings(60).andThen(x -> Check.outcomeOf(() -> x.ask(1))),
                x -> x.ask(0));
        Edge.badArgument("43: ask: the key goes ahead of 60 askings", askings(60), x -> x.ask(8));
        Edge.badArgument("43: ask: the key -1 goes ahead of 60 askings", askings(60), x -> x.ask(-1));
        Edge.becomes("43: ask: again after forget", askings(60).andThen(x -> x.forget()),
                x -> x.ask(7) + " " + x.asked(0), "8 1");
        Edge.becomes("43: ask: what threw does not count", askings(59).andThen(x -> Check.outcomeOf(() -> x.ask(8))),
                x -> x.ask(7) + " " + x.asked(0), "4 60");
        Edge.badState("43: ask: 60 again after forget",
                askings(60).andThen(x -> x.forget()).andThen(x -> {
                    for (int asking = 0; asking < 60; asking++) {
                        x.ask(2);
                    }
                }), x -> x.ask(2));
    }

    private static void forget() {
        Edge.tells("44: forget: none", Edge.watched("4"), Cursorlist::forget, 0);
        Edge.tells("44: forget: twice", asking("73").andThen(x -> x.forget()), Cursorlist::forget, 0);
        Edge.becomes("44: forget: one", asking("7"), x -> x.forget() + " " + x.recent(), "1 0 1 2 3 4 5 6 7");
        Edge.becomes("44: forget: 60", askings(60), x -> x.forget() + " " + x.recent(), "60 0 1 2 3 4 5 6 7");
        Edge.becomes("44: forget: no askings, no COST, no key then", asking("73"), x -> {
            x.forget();
            return x.asked(0) + " " + x.asked(1) + " " + x.asked(2) + " " + x.asked(3);
        }, "0 0 -1 7");
        Edge.becomes("44: forget: nothing costs by an ORDER then", asking("73", Edge.EIGHT), x -> {
            x.forget();
            return x.byOrder(0, 0) + " " + x.byOrder(0, 2);
        }, "0 0", Edge.EIGHT);
        Edge.becomes("44: forget: nothing costs by an ORDER then, though all were asked", askings(60, Edge.EIGHT),
                x -> {
            x.forget();
            return x.byOrder(0, 0) + " " + x.byOrder(0, 2);
        }, "0 0", Edge.EIGHT);
        Edge.becomes("44: forget: leaves lists, refusals and knocks", asking("73", "4 5").andThen(x -> x.knock()),
                x -> {
            int many = x.forget();
            return many + " " + x.house(0) + " " + x.house(1) + " " + x.house(4);
        }, "2 2 3 1", "4 5");
        Edge.leavesCursors("44: forget leaves cursors", Edge.lists("4 5"), Cursorlist::forget);
    }

    private static void asked() {
        Edge.arguments("45: asked: what", 0, 3, asking("73"), Cursorlist::asked);
        Edge.arguments("45: asked: what, with nothing asked", 0, 3, Edge.watched("4"), Cursorlist::asked);
        Edge.tells("45: asked: no ASKINGS", Edge.watched("4"), x -> x.asked(0), 0);
        Edge.tells("45: asked: 60 ASKINGS", askings(60), x -> x.asked(0), 60);
        Edge.tells("45: asked: no COST", Edge.watched("4"), x -> x.asked(1), 0);
        Edge.tells("45: asked: the least COST", asking("0".repeat(60)), x -> x.asked(1), 60);
        Edge.tells("45: asked: the most COST", asking("76543210".repeat(8).substring(0, 60)), x -> x.asked(1), 480);
        Edge.tells("45: asked: no key", Edge.watched("4"), x -> x.asked(2), -1);
        Edge.tells("45: asked: key 0", asking("70"), x -> x.asked(2), 0);
        Edge.tells("45: asked: key 7", asking("07"), x -> x.asked(2), 7);
        Edge.tells("45: asked: a key that threw is not the last",
                asking("5").andThen(x -> Check.outcomeOf(() -> x.ask(8))), x -> x.asked(2), 5);
        Edge.tells("45: asked: last in RECENT at first", Edge.watched("4"), x -> x.asked(3), 7);
        Edge.tells("45: asked: last in RECENT when the last was asked", asking("7"), x -> x.asked(3), 6);
        Edge.tells("45: asked: last in RECENT when all others were asked", asking("1234567"), x -> x.asked(3), 0);
    }

    private static void recent() {
        Edge.tells("46: recent: at first", Edge.watched("4"), Cursorlist::recent, "0 1 2 3 4 5 6 7");
        Edge.tells("46: recent: the first asked stays", asking("0"), Cursorlist::recent, "0 1 2 3 4 5 6 7");
        Edge.tells("46: recent: the last asked", asking("7"), Cursorlist::recent, "7 0 1 2 3 4 5 6");
        Edge.tells("46: recent: all asked", asking("01234567"), Cursorlist::recent, "7 6 5 4 3 2 1 0");
        Edge.tells("46: recent: after 60", askings(60), Cursorlist::recent, "3 2 1 0 7 6 5 4");
        Edge.leavesCursors("46: recent leaves cursors", Edge.lists("4 5"), Cursorlist::recent);
    }

    private static void byOrder() {
        String turned = "7 6 5 4 3 2 1 0";
        Edge.places("47: byOrder: list", 0, 3, asking("7", Edge.EIGHT), (x, list) -> x.byOrder(list, 0));
        Edge.arguments("47: byOrder: what", 0, 2, asking("7", Edge.EIGHT), (x, what) -> x.byOrder(0, what));
        Edge.noPlace("47: byOrder: the list goes ahead of what", asking("7", Edge.EIGHT), x -> x.byOrder(4, 3));
        Edge.badArgument("47: byOrder: what goes ahead of REFUSED", asking("7", "4"), x -> x.byOrder(0, 3));
        Edge.badArgument("47: byOrder: what -1 goes ahead of REFUSED", asking("7", ""), x -> x.byOrder(0, -1));
        Edge.tells("47: byOrder: COST with nothing asked", Edge.watched(Edge.EIGHT), x -> x.byOrder(0, 0), 0);
        Edge.tells("47: byOrder: COST of the first", asking("0", Edge.EIGHT), x -> x.byOrder(0, 0), 1);
        Edge.tells("47: byOrder: COST of the last", asking("7", Edge.EIGHT), x -> x.byOrder(0, 0), 8);
        Edge.tells("47: byOrder: COST of a key asked twice counts twice", asking("77", Edge.EIGHT),
                x -> x.byOrder(0, 0), 16);
        Edge.tells("47: byOrder: COST of 60", asking("7".repeat(60), Edge.EIGHT), x -> x.byOrder(0, 0), 480);
        Edge.tells("47: byOrder: COST by another ORDER", asking("77", turned), x -> x.byOrder(0, 0), 2);
        Edge.tells("47: byOrder: no INVERSIONS", asking("7", Edge.EIGHT), x -> x.byOrder(0, 1), 0);
        Edge.tells("47: byOrder: one INVERSION", asking("7", "1 0 2 3 4 5 6 7"), x -> x.byOrder(0, 1), 1);
        Edge.tells("47: byOrder: the last behind brought ahead", asking("7", "7 0 1 2 3 4 5 6"),
                x -> x.byOrder(0, 1), 7);
        Edge.tells("47: byOrder: the most INVERSIONS", asking("7", turned), x -> x.byOrder(0, 1), 28);
        Edge.tells("47: byOrder: BOUND with nothing asked", Edge.watched(Edge.EIGHT), x -> x.byOrder(0, 2), 0);
        Edge.tells("47: byOrder: BOUND with nothing asked, INVERSIONS alone", Edge.watched(turned),
                x -> x.byOrder(0, 2), 28);
        Edge.tells("47: byOrder: BOUND", asking("70", "1 0 2 3 4 5 6 7"), x -> x.byOrder(0, 2), 2 * (8 + 2) - 2 + 1);
        Edge.tells("47: byOrder: of the last list", asking("7").andThen(x -> x.places(3, 8)), x -> x.byOrder(3, 0), 8);
    }

    private static void byOrderOfNoOrder() {
        String[] none = {
            "", "0", "0 1 2 3 4 5 6", "0 1 2 3 4 5 6 7 8", "0 1 2 3 4 5 6 7 0", "0 1 2 3 4 5 6 7 -1", "0 1 2 3 4 5 6 6",
            "0 0 2 3 4 5 6 7", "1 2 3 4 5 6 7 8", "-1 0 1 2 3 4 5 6", "0 1 2 3 4 5 6 9999", "0 0 0 0 0 0 0 0",
            Edge.EIGHT + " " + Edge.EIGHT, Edge.SIXTEEN
        };
        for (String text : none) {
            for (int each = 0; each <= 2; each++) {
                int what = each;
                Edge.refuses("47: byOrder: no ORDER is " + text + ", " + what, asking("73", text),
                        x -> x.byOrder(0, what));
            }
        }
        Edge.refuses("47: byOrder: an ORDER that was", asking("7", Edge.EIGHT).andThen(x -> x.take(0, 1)),
                x -> x.byOrder(0, 0));
        Edge.leavesCursors("47: byOrder leaves cursors", Edge.lists(Edge.EIGHT), x -> x.byOrder(0, 2));
        Edge.leavesCursors("47: byOrder REFUSED leaves cursors", Edge.lists("4 5"), x -> x.byOrder(0, 2));
    }
}
