import java.util.TreeSet;

/** Promises 48 to 51: the house. */
final class HouseTest {

    private HouseTest() {
    }

    public static void main(String[] args) {
        Check.test("promise 48: house", HouseTest::house);
        Check.test("promise 48: house, REFUSED", HouseTest::refusals);
        Check.test("promise 49: knock", HouseTest::knock);
        Check.test("promise 50: isSound", HouseTest::isSound);
        Check.test("promise 51: digest of a new object", HouseTest::digestOfNew);
        Check.test("promise 51: digest of a used object", HouseTest::digestOfUsed);
        Check.test("promise 51: digest tells states apart", HouseTest::digestTellsApart);
        Check.end();
    }

    private static void house() {
        Cursorlist x = Check.with(1, 2, 3);
        x.places(3, 16);
        Check.due(x.house(0), 19);
        x.open(0, 0, 0);
        x.open(2, 3, 5);
        Check.due(x.house(1), 2);
        Check.due(x.house(2), 0);
        x.take(3, 0);
        Check.due(x.house(0), 18);
        Check.due(x.house(2), 1);
        x.clear(0);
        Check.due(x.house(2), 2);
        x.shut(0);
        Check.due(x.house(1), 1);
        Check.due(x.house(2), 1);
        Check.due(x.house(3), 0);
        Check.due(x.house(4), 0);
        x.knock();
        Check.due(x.house(4), 1);
        Check.dueBadArgument(x, () -> x.house(5));
        Check.dueBadArgument(x, () -> x.house(-1));
    }

    private static void refusals() {
        Cursorlist x = new Cursorlist();
        x.take(0, 0);
        x.take(0, 2);
        x.look(0, 1);
        x.byOrder(0, 0);
        Check.due(x.house(3), 3);
        Check.dueBadArgument(x, () -> x.byOrder(0, 3));
        Check.due(x.house(3), 3);
        x.digest();
        x.isSound();
        Check.due(x.house(3), 3);
    }

    private static void knock() {
        Cursorlist x = new Cursorlist();
        Check.due(x.knock(), 1);
        Check.due(x.knock(), 2);
        Check.due(new Cursorlist().knock(), 1);
        Check.due(x.knock(), 3);
        Check.due(x.house(4), 3);
    }

    private static void isSound() {
        Cursorlist x = new Cursorlist();
        Check.due(x.isSound(), true);
        x.places(0, 8);
        Check.due(x.isSound(), true);
        x.reverse(0);
        Check.fill(x, 1, -9999, 9999, -9999, 5000);
        Check.fill(x, 2, 99, -100);
        x.places(3, 16);
        x.open(0, 0, 3);
        x.open(1, 1, 4);
        for (int asking = 0; asking < 60; asking++) {
            x.ask(asking * 5 % 8);
            String before = Check.stateOf(x);
            Check.due(x.isSound(), true);
            Check.due(Check.stateOf(x), before);
        }
        Check.due(x.house(3), 0);
        Check.due(x.forth(0), 4);
    }

    private static void digestOfNew() {
        Cursorlist x = new Cursorlist();
        Check.due(x.digest(), digestByFace(x));
        Check.due(x.digest(), new Cursorlist().digest());
    }

    private static void digestOfUsed() {
        Cursorlist x = Check.with(5, -6, 7);
        x.places(1, 8);
        x.rotate(1, 3);
        x.places(2, 9);
        x.copy(1, 3);
        x.reverse(3);
        x.open(0, 0, 2);
        x.open(2, 1, 8);
        x.rotate(1, 2);
        x.ask(4);
        x.ask(7);
        x.knock();
        x.times(2, 2);
        Check.due(x.house(3), 1);
        long before = x.digest();
        Check.due(before, digestByFace(x));
        Check.due(x.digest(), before);
    }

    private static void digestTellsApart() {
        Cursorlist x = Check.with(1, 2);
        TreeSet<Long> seen = new TreeSet<>();
        seen.add(x.digest());
        Runnable[] acts = {
            () -> x.put(0, 1, 0), () -> x.trim(0), () -> x.open(1, 0, 1), () -> x.forth(1), () -> x.put(0, 0, 9),
            () -> x.shut(1), x::knock, () -> x.look(3, 0), () -> x.ask(0), () -> x.ask(0), () -> x.ask(1),
            x::forget, () -> x.places(2, 8), () -> x.swap(2, 0, 1)
        };
        for (Runnable act : acts) {
            act.run();
            seen.add(x.digest());
        }
        // Trimming and forgetting lead back to what was there, so two of the states come twice.
        Check.due(seen.size(), acts.length + 1 - 2);
    }

    private static long digestByFace(Cursorlist x) {
        long d = 7834;
        for (int what = 0; what <= 4; what++) {
            d = d * 31 + x.house(what);
        }
        for (int list = 0; list < 4; list++) {
            d = d * 31 + x.size(list);
            for (int place = 0; place < x.size(list); place++) {
                d = d * 31 + x.get(list, place);
            }
            d = d * 31 + x.value(list, 2);
            d = d * 31 + x.degree(list);
        }
        for (int cursor = 0; cursor < 3; cursor++) {
            for (int what = 0; what <= 5; what++) {
                d = d * 31 + x.ofCursor(cursor, what);
            }
        }
        for (int what = 0; what <= 3; what++) {
            d = d * 31 + x.asked(what);
        }
        for (String key : x.recent().split(" ")) {
            d = d * 31 + Integer.parseInt(key);
        }
        for (int list = 0; list < 4; list++) {
            boolean isOrder = isOrder(x, list);
            d = d * 31 + (isOrder ? 1 : 0);
            for (int what = 0; isOrder && what <= 2; what++) {
                d = d * 31 + x.byOrder(list, what);
            }
        }
        return d * 31 + (x.isSound() ? 1 : 0);
    }

    private static boolean isOrder(Cursorlist x, int list) {
        TreeSet<Integer> keys = new TreeSet<>();
        for (int place = 0; place < x.size(list); place++) {
            keys.add(x.get(list, place));
        }
        return x.size(list) == 8 && keys.size() == 8 && keys.first() == 0 && keys.last() == 7;
    }
}
