import java.math.BigInteger;
import java.util.function.Consumer;
import java.util.function.Function;

/** Promises 48 to 51: each boundary case that a sentence names, in a test of its own. */
final class HouseEdgesTest {

    private static final Consumer<Cursorlist> FULL = Edge.lists(Edge.SIXTEEN, Edge.SIXTEEN, Edge.SIXTEEN, Edge.SIXTEEN);

    private HouseEdgesTest() {
    }

    public static void main(String[] args) {
        house();
        houseOfCursors();
        houseOfRefusals();
        knock();
        isSound();
        isSoundOnCopies();
        digestOfStates();
        digestChangesNothing();
        Check.end();
    }

    private static void house() {
        Edge.arguments("48: house: what", 0, 4, Edge.watched("4"), Cursorlist::house);
        Edge.tells("48: house: no ITEMS", Edge.lists(), x -> x.house(0), 0);
        Edge.tells("48: house: ITEMS of the first list alone", Edge.lists("4 5"), x -> x.house(0), 2);
        Edge.tells("48: house: ITEMS of the last list alone", Edge.lists("", "", "", "4"), x -> x.house(0), 1);
        Edge.tells("48: house: 64 ITEMS", FULL, x -> x.house(0), 64);
        Edge.tells("48: house: ITEMS that went do not count", FULL.andThen(x -> x.clear(2)), x -> x.house(0), 48);
        Edge.tells("48: house: never knocked", Edge.watched("4"), x -> x.house(4), 0);
        Edge.tells("48: house: knocked once", Edge.watched("4").andThen(x -> x.knock()), x -> x.house(4), 1);
    }

    private static void houseOfCursors() {
        Consumer<Cursorlist> three = Edge.watched("4 5", "6", "7");
        Edge.tells("48: house: no CURSORS", Edge.lists("4"), x -> x.house(1) + " " + x.house(2), "0 0");
        Edge.tells("48: house: three CURSORS", three, x -> x.house(1) + " " + x.house(2), "3 0");
        Edge.tells("48: house: the last CURSOR alone", Edge.lists("4").andThen(x -> x.open(2, 0, 0)),
                x -> x.house(1), 1);
        Edge.tells("48: house: one opened twice counts once", Edge.lists("4").andThen(x -> x.open(2, 0, 0))
                .andThen(x -> x.open(2, 0, 1)), x -> x.house(1), 1);
        Edge.tells("48: house: one shut does not count", three.andThen(x -> x.shut(1)), x -> x.house(1), 2);
        Edge.tells("48: house: three STALE", three.andThen(x -> {
            x.clear(0);
            x.clear(1);
            x.clear(2);
        }), x -> x.house(1) + " " + x.house(2), "3 3");
        Edge.tells("48: house: one STALE", three.andThen(x -> x.clear(1)), x -> x.house(1) + " " + x.house(2), "3 1");
        Edge.tells("48: house: made STALE twice counts once", three.andThen(x -> x.clear(1)).andThen(x -> x.clear(1)),
                x -> x.house(2), 1);
        Edge.tells("48: house: STALE and shut does not count", three.andThen(x -> x.clear(1)).andThen(x -> x.shut(1)),
                x -> x.house(1) + " " + x.house(2), "2 0");
        Edge.tells("48: house: shut and its list changed does not count", three.andThen(x -> x.shut(1))
                .andThen(x -> x.clear(1)), x -> x.house(1) + " " + x.house(2), "2 0");
        Edge.tells("48: house: STALE and opened again does not count", three.andThen(x -> x.clear(1))
                .andThen(x -> x.open(1, 1, 0)), x -> x.house(1) + " " + x.house(2), "3 0");
        Edge.tells("48: house: list 0 changed, and no cursor there", Edge.lists("4").andThen(x -> x.clear(0)),
                x -> x.house(2), 0);
    }

    private static void houseOfRefusals() {
        Consumer<Cursorlist> ready = Edge.lists(Edge.SIXTEEN, "", "9999", "99 99").andThen(x -> x.open(0, 0, 0));
        counts("put", ready, x -> x.put(0, 0, 1));
        counts("take", ready, x -> x.take(1, 0));
        counts("look", ready, x -> x.look(1, 0));
        counts("insert", ready, x -> x.insert(0, 0, 1));
        counts("append", ready, x -> x.append(0, 2));
        counts("appendAt", ready, x -> x.appendAt(0, 0, 2));
        counts("through", ready, x -> x.through(1, 2, 3));
        counts("forth", ready.andThen(x -> x.trim(0)), x -> x.forth(0));
        counts("back", ready.andThen(x -> x.trim(0)), x -> x.back(0));
        counts("puts", ready, x -> x.puts(0, 1));
        counts("cuts", ready, x -> x.cuts(0));
        counts("changes", ready, x -> x.changes(0, 1));
        counts("meet", ready.andThen(x -> x.open(1, 1, 0)), x -> x.meet(0, 1));
        counts("plus", ready, x -> x.plus(2, 2));
        counts("times", ready, x -> x.times(2, 2));
        counts("shift", ready, x -> x.shift(0));
        counts("derive", ready.andThen(x -> x.insert(2, 0, 1)).andThen(x -> x.insert(2, 0, 1)), x -> x.derive(2));
        counts("byOrder", ready, x -> x.byOrder(0, 0));
        Edge.tells("48: house: what threw is not counted", ready.andThen(x -> Check.outcomeOf(() -> x.put(0, 6, 1))),
                x -> x.house(3), 0);
        Edge.tells("48: house: NOTHING is not counted", ready.andThen(x -> x.take(1, 2)).andThen(x -> x.look(1, 2)),
                x -> x.house(3), 0);
        Edge.tells("48: house: false and NONE are not counted", ready, x -> {
            boolean isAny = x.has(1, 1) || x.isMirror(0) || x.areSame(0, 1) || x.shut(2);
            return isAny + " " + x.indexOf(1, 1, true) + " " + x.degree(1) + " " + x.house(3);
        }, "false -1 -1 0");
    }

    private static void counts(String name, Consumer<Cursorlist> ready, Function<Cursorlist, Object> call) {
        Edge.refuses("48: house: REFUSED by " + name + " is counted", ready, call);
        Edge.tells("48: house: REFUSED by " + name + " is counted each time", ready.andThen(call::apply)
                .andThen(call::apply), x -> x.house(3), 2);
    }

    private static void knock() {
        Edge.becomes("49: knock: the first", Edge.watched("4"), x -> x.knock() + " " + x.house(4), "1 1", "4");
        Edge.becomes("49: knock: the second", Edge.watched("4").andThen(x -> x.knock()),
                x -> x.knock() + " " + x.house(4), "2 2", "4");
        Edge.leavesCursors("49: knock leaves cursors", Edge.lists("4 5"), Cursorlist::knock);
        Check.test("49: knock: 500 times", () -> {
            Cursorlist x = new Cursorlist();
            for (int knock = 1; knock <= 500; knock++) {
                Check.due(x.knock(), knock);
            }
        });
        Check.test("49: knock: of one object is not of another", () -> {
            new Cursorlist().knock();
            Check.due(new Cursorlist().knock(), 1);
        });
    }

    private static void isSound() {
        String most = Edge.times(16, 9999);
        String least = Edge.times(16, -9999);
        String turned = "7 6 5 4 3 2 1 0";
        sound("a new object", Edge.lists());
        sound("one item each", Edge.lists("9999", "-9999", "1", "0"));
        sound("16 items each", FULL);
        sound("sums that can not be told", Edge.lists(most, least, most, least));
        sound("products that can not be told", Edge.lists(most, Edge.times(9, 1), "100", "-100"));
        sound("products of none", Edge.lists("", "", most, least));
        sound("products below 0", Edge.lists("-1 9", "9 -9 9", "-99 0 0 -1", "0 -1"));
        sound("products at their edges", Edge.lists("99", "-101", "101 -99", "50 120 50"));
        sound("ORDERS, nothing asked", Edge.lists(Edge.EIGHT, turned, "1 0 2 3 4 5 6 7", "7 0 1 2 3 4 5 6"));
        sound("ORDERS, one asked as it is dearest", Edge.lists(Edge.EIGHT, turned).andThen(x -> x.ask(7)));
        sound("ORDERS, one asked as it is cheapest", Edge.lists(Edge.EIGHT, turned).andThen(x -> x.ask(0)));
        sound("ORDERS, 60 asked as they are dearest", Edge.lists(Edge.EIGHT, turned, "3 2 1 0 7 6 5 4").andThen(x -> {
            for (int asking = 0; asking < 60; asking++) {
                x.ask(7 - asking % 8);
            }
        }));
        sound("ORDERS, 60 times the same", Edge.lists(Edge.EIGHT, turned).andThen(x -> {
            for (int asking = 0; asking < 60; asking++) {
                x.ask(7);
            }
        }));
        sound("ORDERS, all forgotten", Edge.lists(Edge.EIGHT, turned).andThen(x -> x.ask(7)).andThen(x -> x.forget()));
        sound("a STALE cursor", Edge.watched("4 5").andThen(x -> x.clear(0)));
    }

    private static void sound(String name, Consumer<Cursorlist> ready) {
        Edge.tells("50: isSound: " + name, ready, Cursorlist::isSound, true);
    }

    private static void isSoundOnCopies() {
        Consumer<Cursorlist> ready = Edge.watched("4 5 6", "9999 9999", "1 2").andThen(x -> x.ask(5));
        Edge.tells("50: isSound: changes nothing", ready, Cursorlist::isSound, true);
        Edge.tells("50: isSound: sums and products that can not be told are not counted", ready, x -> {
            x.isSound();
            return x.house(3);
        }, 0);
        Edge.leavesCursors("50: isSound leaves cursors", Edge.lists("4 5", "9999"), Cursorlist::isSound);
        Edge.tells("50: isSound: twice", ready, x -> x.isSound() && x.isSound(), true);
    }

    private static void digestOfStates() {
        String turned = "7 6 5 4 3 2 1 0";
        told("a new object", Edge.lists());
        told("one item", Edge.lists("4"));
        told("items below 0", Edge.lists("-9999 -1", "0 -1"));
        told("the most items",
                Edge.lists(Edge.times(16, 9999), Edge.times(16, -9999), Edge.times(16, 0), Edge.SIXTEEN));
        told("zeros alone", Edge.lists("0 0 0", "", "0"));
        told("cursors at the ends", Edge.lists("4 5").andThen(x -> x.open(0, 0, 0)).andThen(x -> x.open(1, 0, 2)));
        told("a cursor over none", Edge.lists("4 5").andThen(x -> x.open(2, 3, 0)));
        told("a STALE cursor", Edge.watched("4 5", "6").andThen(x -> x.clear(0)));
        told("a cursor that was shut", Edge.watched("4 5", "6").andThen(x -> x.shut(0)));
        told("askings", Edge.lists("4").andThen(x -> x.ask(7)).andThen(x -> x.ask(0)));
        told("askings that were forgotten", Edge.lists("4").andThen(x -> x.ask(7)).andThen(x -> x.forget()));
        told("an ORDER", Edge.lists("", Edge.EIGHT).andThen(x -> x.ask(7)));
        told("four ORDERS", Edge.lists(turned, Edge.EIGHT, turned, Edge.EIGHT).andThen(x -> x.ask(3)));
        told("what is no ORDER, though it has 8", Edge.lists("0 1 2 3 4 5 6 6").andThen(x -> x.ask(3)));
        told("what was refused", Edge.lists("").andThen(x -> x.take(0, 0)).andThen(x -> x.byOrder(0, 0)));
        told("knocks", Edge.lists("4").andThen(x -> x.knock()).andThen(x -> x.knock()));
    }

    /** The digest is d as it wraps around, and it does wrap around. */
    private static void told(String name, Consumer<Cursorlist> ready) {
        Cursorlist x = new Cursorlist();
        ready.accept(x);
        BigInteger d = endlessDigest(x);
        Check.test("51: digest: it wraps around: " + name, () -> Check.due(d.bitLength() > 64, true));
        Edge.tells("51: digest: " + name, ready, Cursorlist::digest, d.longValue());
    }

    private static void digestChangesNothing() {
        Consumer<Cursorlist> ready = Edge.watched("4 5 6", "9999 9999", Edge.EIGHT).andThen(x -> x.ask(5));
        Edge.tells("51: digest: twice the same", ready, x -> x.digest() - x.digest(), 0);
        Edge.tells("51: digest: what is no ORDER is not counted as REFUSED", ready, x -> {
            x.digest();
            return x.house(3);
        }, 0);
        Edge.leavesCursors("51: digest leaves cursors", Edge.lists("4 5", "9999"), Cursorlist::digest);
        Edge.tells("51: digest: two objects alike", ready, x -> {
            Cursorlist other = new Cursorlist();
            ready.accept(other);
            return x.digest() - other.digest();
        }, 0);
    }

    private static BigInteger mixed(BigInteger d, int v) {
        return d.multiply(BigInteger.valueOf(31)).add(BigInteger.valueOf(v));
    }

    /** The document's row of numbers, by the face alone and without an end to d. */
    private static BigInteger endlessDigest(Cursorlist x) {
        BigInteger d = BigInteger.valueOf(7834);
        for (int what = 0; what <= 4; what++) {
            d = mixed(d, x.house(what));
        }
        for (int list = 0; list < 4; list++) {
            d = mixed(d, x.size(list));
            for (int place = 0; place < x.size(list); place++) {
                d = mixed(d, x.get(list, place));
            }
            d = mixed(mixed(d, x.value(list, 2)), x.degree(list));
        }
        for (int cursor = 0; cursor < 3; cursor++) {
            for (int what = 0; what <= 5; what++) {
                d = mixed(d, x.ofCursor(cursor, what));
            }
        }
        for (int what = 0; what <= 3; what++) {
            d = mixed(d, x.asked(what));
        }
        for (String key : x.recent().split(" ")) {
            d = mixed(d, Integer.parseInt(key));
        }
        for (int list = 0; list < 4; list++) {
            d = mixedWithOrder(d, x, list);
        }
        return mixed(d, 1);
    }

    private static BigInteger mixedWithOrder(BigInteger d, Cursorlist x, int list) {
        boolean isOrder = x.size(list) == 8;
        for (int key = 0; key < 8; key++) {
            isOrder = isOrder && x.has(list, key);
        }
        BigInteger mix = mixed(d, isOrder ? 1 : 0);
        for (int what = 0; isOrder && what <= 2; what++) {
            mix = mixed(mix, x.byOrder(list, what));
        }
        return mix;
    }
}
