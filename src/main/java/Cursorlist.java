/** Lists with cursors between their items, lists as polynomials, and a list of what was asked last, first. */
public final class Cursorlist {

    private static final int LISTS = 4;
    private static final int ITEMS_MOST = 16;
    private static final int ITEM_MOST = 9999;
    private static final int CURSORS = 3;
    private static final int KEYS = 8;
    private static final int ASKINGS_MOST = 60;
    private static final int BY_MOST = 99;
    private static final int X_MOST = 99;
    private static final int MODULUS = 9973;

    private static final int NONE = -1;
    private static final int NOTHING = 10000;
    private static final int REFUSED = -1000009;

    private static final int DIGEST_START = 7834;
    private static final int DIGEST_FACTOR = 31;

    private final Row[] lists = new Row[LISTS];
    private final Cursor[] cursors = new Cursor[CURSORS];
    private final Recency recency = new Recency();
    // Made once and used again by every call: a call makes no row of its own.
    private final Row result = new Row();
    private int refusals;
    private int knocks;

    public Cursorlist() {
        for (int list = 0; list < LISTS; list++) {
            lists[list] = new Row();
        }
        for (int cursor = 0; cursor < CURSORS; cursor++) {
            cursors[cursor] = new Cursor();
        }
    }

    // ---- lists

    public int put(int list, int way, int item) throws IndexOutOfBoundsException, IllegalArgumentException {
        Row row = listAt(list);
        demandWithin(way, 0, 5);
        demandItem(item);
        boolean isBehind = way == 1 || way == 3 || way == 5;
        return putInto(list, isBehind ? row.count : 0, item);
    }

    public int take(int list, int way) throws IndexOutOfBoundsException, IllegalArgumentException {
        Row row = listAt(list);
        demandWithin(way, 0, 6);
        if (row.count == 0) {
            if (way == 0 || way == 1 || way == 4 || way == 5) {
                return refuse();
            }
            makeStale(list, NONE);
            return NOTHING;
        }
        return takeFrom(list, endOf(row, way));
    }

    public int look(int list, int way) throws IndexOutOfBoundsException, IllegalArgumentException {
        Row row = listAt(list);
        demandWithin(way, 0, 5);
        if (row.count == 0) {
            return way == 0 || way == 1 || way == 4 ? refuse() : NOTHING;
        }
        return row.itemAt(endOf(row, way));
    }

    public int get(int list, int place) throws IndexOutOfBoundsException {
        Row row = listAt(list);
        demandPlace(row, place);
        return row.itemAt(place);
    }

    public int set(int list, int place, int item) throws IndexOutOfBoundsException, IllegalArgumentException {
        Row row = listAt(list);
        demandPlace(row, place);
        demandItem(item);
        int before = row.itemAt(place);
        row.changeAt(place, item);
        return before;
    }

    public int insert(int list, int place, int item) throws IndexOutOfBoundsException, IllegalArgumentException {
        demandGap(listAt(list), place);
        demandItem(item);
        return putInto(list, place, item);
    }

    public int removeAt(int list, int place) throws IndexOutOfBoundsException {
        demandPlace(listAt(list), place);
        return takeFrom(list, place);
    }

    public boolean drop(int list, int item, boolean isLast) throws IndexOutOfBoundsException {
        Row row = listAt(list);
        int place = row.placeOf(item, isLast);
        row.takeOut(place);
        makeStale(list, NONE);
        return place != NONE;
    }

    public int thin(int list, int item) throws IndexOutOfBoundsException {
        int went = listAt(list).takeOutAll(item);
        makeStale(list, NONE);
        return went;
    }

    public int indexOf(int list, int item, boolean isLast) throws IndexOutOfBoundsException {
        return listAt(list).placeOf(item, isLast);
    }

    public boolean has(int list, int item) throws IndexOutOfBoundsException {
        return listAt(list).placeOf(item, false) != NONE;
    }

    public int size(int list) throws IndexOutOfBoundsException {
        return listAt(list).count;
    }

    public String text(int list, boolean isDown) throws IndexOutOfBoundsException {
        return listAt(list).joined(isDown);
    }

    public int clear(int list) throws IndexOutOfBoundsException {
        Row row = listAt(list);
        int went = row.count;
        row.count = 0;
        makeStale(list, NONE);
        return went;
    }

    public int append(int list, int from) throws IndexOutOfBoundsException {
        Row row = listAt(list);
        Row more = listAt(from);
        return becomeResult(list, result.becomeJoined(row, row.count, more));
    }

    public int appendAt(int list, int place, int from) throws IndexOutOfBoundsException {
        Row row = listAt(list);
        Row more = listAt(from);
        demandGap(row, place);
        return becomeResult(list, result.becomeJoined(row, place, more));
    }

    public int copy(int list, int into) throws IndexOutOfBoundsException {
        Row row = listAt(list);
        Row target = listAt(into);
        target.become(row);
        makeStale(into, NONE);
        return target.count;
    }

    public int places(int list, int many) throws IndexOutOfBoundsException, IllegalArgumentException {
        Row row = listAt(list);
        demandWithin(many, 0, ITEMS_MOST);
        row.becomePlaces(many);
        makeStale(list, NONE);
        return row.count;
    }

    public int rotate(int list, int by) throws IndexOutOfBoundsException, IllegalArgumentException {
        Row row = listAt(list);
        demandWithin(by, -BY_MOST, BY_MOST);
        row.turnBy(by);
        makeStale(list, NONE);
        return firstOf(row);
    }

    public int move(int list, int from, int to) throws IndexOutOfBoundsException {
        Row row = listAt(list);
        demandPlace(row, from);
        demandPlace(row, to);
        int item = row.takeOut(from);
        row.putIn(to, item);
        makeStale(list, NONE);
        return item;
    }

    public int swap(int list, int one, int other) throws IndexOutOfBoundsException {
        Row row = listAt(list);
        demandPlace(row, one);
        demandPlace(row, other);
        row.exchange(one, other);
        return row.itemAt(one);
    }

    public int reverse(int list) throws IndexOutOfBoundsException {
        Row row = listAt(list);
        row.turnRound();
        return firstOf(row);
    }

    public int through(int list, int map, int into) throws IndexOutOfBoundsException {
        Row row = listAt(list);
        Row way = listAt(map);
        listAt(into);
        return becomeResult(into, result.becomeThrough(row, way));
    }

    public boolean areSame(int list, int other) throws IndexOutOfBoundsException {
        return listAt(list).isAs(listAt(other));
    }

    public boolean isMirror(int list) throws IndexOutOfBoundsException {
        Row row = listAt(list);
        result.become(row);
        result.turnRound();
        return result.isAs(row);
    }

    // ---- cursors

    public int open(int cursor, int list, int place) throws IndexOutOfBoundsException {
        Cursor opened = cursorAt(cursor);
        Row row = listAt(list);
        demandGap(row, place);
        opened.begin(list, place);
        return row.count - place;
    }

    public boolean shut(int cursor) throws IndexOutOfBoundsException {
        Cursor ended = cursorAt(cursor);
        boolean wasThere = ended.isThere;
        ended.isThere = false;
        return wasThere;
    }

    public int forth(int cursor) throws IndexOutOfBoundsException, IllegalStateException {
        Cursor goer = cursorAt(cursor);
        demandThere(goer);
        return goer.isStale ? refuse() : goer.stepForth(rowUnder(goer));
    }

    public int back(int cursor) throws IndexOutOfBoundsException, IllegalStateException {
        Cursor goer = cursorAt(cursor);
        demandThere(goer);
        return goer.isStale ? refuse() : goer.stepBack(rowUnder(goer));
    }

    public int puts(int cursor, int item)
            throws IndexOutOfBoundsException, IllegalArgumentException, IllegalStateException {
        Cursor putter = cursorAt(cursor);
        demandItem(item);
        demandThere(putter);
        if (putter.isStale || !putter.putHere(rowUnder(putter), item)) {
            return refuse();
        }
        makeStale(putter.list, cursor);
        return putter.index;
    }

    public int cuts(int cursor) throws IndexOutOfBoundsException, IllegalStateException {
        Cursor cutter = cursorAt(cursor);
        demandThere(cutter);
        if (cutter.isStale || cutter.last == NONE) {
            return refuse();
        }
        cutter.cutLast(rowUnder(cutter));
        makeStale(cutter.list, cursor);
        return cutter.index;
    }

    public int changes(int cursor, int item)
            throws IndexOutOfBoundsException, IllegalArgumentException, IllegalStateException {
        Cursor changer = cursorAt(cursor);
        demandItem(item);
        demandThere(changer);
        if (changer.isStale || changer.last == NONE) {
            return refuse();
        }
        rowUnder(changer).changeAt(changer.last, item);
        return changer.index;
    }

    public int meet(int cursor, int other)
            throws IndexOutOfBoundsException, IllegalArgumentException, IllegalStateException {
        Cursor a = cursorAt(cursor);
        Cursor b = cursorAt(other);
        if (cursor == other) {
            throw new IllegalArgumentException("a cursor does not meet itself");
        }
        demandThere(a);
        demandThere(b);
        if (a.isStale || b.isStale || a.list != b.list || a.index > b.index) {
            return refuse();
        }
        return sumUntilMet(a, b, rowUnder(a));
    }

    public int ofCursor(int cursor, int what) throws IndexOutOfBoundsException, IllegalArgumentException {
        Cursor told = cursorAt(cursor);
        demandWithin(what, 0, 5);
        if (!told.isThere) {
            return NONE;
        }
        if (what == 0) {
            return told.list;
        }
        if (what == 5) {
            return numberOf(told.isStale);
        }
        return told.isStale ? NONE : whereIs(told, what);
    }

    // ---- polynomials

    public int plus(int list, int other) throws IndexOutOfBoundsException {
        return becomeResult(list, result.becomeSum(listAt(list), listAt(other)));
    }

    public int times(int list, int other) throws IndexOutOfBoundsException {
        return becomeResult(list, result.becomeProduct(listAt(list), listAt(other)));
    }

    public int shift(int list) throws IndexOutOfBoundsException {
        Row row = listAt(list);
        if (row.count > 0 && !row.putIn(0, 0)) {
            return refuse();
        }
        makeStale(list, NONE);
        return row.count;
    }

    public int trim(int list) throws IndexOutOfBoundsException {
        Row row = listAt(list);
        int before = row.count;
        row.count = row.lastNotZero() + 1;
        makeStale(list, NONE);
        return before - row.count;
    }

    public int derive(int list) throws IndexOutOfBoundsException {
        return becomeResult(list, result.becomeDerived(listAt(list)));
    }

    public int value(int list, int x) throws IndexOutOfBoundsException, IllegalArgumentException {
        Row row = listAt(list);
        demandWithin(x, -X_MOST, X_MOST);
        return row.restAt(x);
    }

    public int degree(int list) throws IndexOutOfBoundsException {
        return listAt(list).lastNotZero();
    }

    // ---- recency

    public int ask(int key) throws IllegalArgumentException, IllegalStateException {
        demandWithin(key, 0, KEYS - 1);
        if (recency.askings >= ASKINGS_MOST) {
            throw new IllegalStateException("no more askings");
        }
        return recency.bringAhead(key);
    }

    public int forget() {
        int before = recency.askings;
        recency.begin();
        return before;
    }

    public int asked(int what) throws IllegalArgumentException {
        demandWithin(what, 0, 3);
        switch (what) {
            case 0:
                return recency.askings;
            case 1:
                return recency.cost;
            case 2:
                return recency.lastKey;
            default:
                return recency.keys.itemAt(KEYS - 1);
        }
    }

    public String recent() {
        return recency.keys.joined(false);
    }

    public int byOrder(int list, int what) throws IndexOutOfBoundsException, IllegalArgumentException {
        Row row = listAt(list);
        demandWithin(what, 0, 2);
        if (!row.isOrder()) {
            return refuse();
        }
        switch (what) {
            case 0:
                return recency.costBy(row);
            case 1:
                return row.inversions();
            default:
                return recency.boundBy(row);
        }
    }

    // ---- the house

    public int house(int what) throws IllegalArgumentException {
        demandWithin(what, 0, 4);
        switch (what) {
            case 0:
                return itemsOfAll();
            case 1:
                return cursorsThere();
            case 2:
                return cursorsStale();
            case 3:
                return refusals;
            default:
                return knocks;
        }
    }

    public int knock() {
        knocks++;
        return knocks;
    }

    public boolean isSound() {
        for (int list = 0; list < LISTS; list++) {
            if (!turnsBack(lists[list])) {
                return false;
            }
            for (int other = list; other < LISTS; other++) {
                if (!addsUp(lists[list], lists[other])) {
                    return false;
                }
            }
        }
        return isRecencySound();
    }

    public long digest() {
        long d = DIGEST_START;
        for (int what = 0; what <= 4; what++) {
            d = mixed(d, house(what));
        }
        for (int list = 0; list < LISTS; list++) {
            d = mixedWithList(d, lists[list]);
        }
        for (int cursor = 0; cursor < CURSORS; cursor++) {
            for (int what = 0; what <= 5; what++) {
                d = mixed(d, ofCursor(cursor, what));
            }
        }
        for (int what = 0; what <= 3; what++) {
            d = mixed(d, asked(what));
        }
        d = mixedWithItems(d, recency.keys);
        for (int list = 0; list < LISTS; list++) {
            d = mixedWithOrder(d, lists[list]);
        }
        return mixed(d, numberOf(isSound()));
    }

    // ---- what is tested ahead of every act

    private Row listAt(int list) {
        if (list < 0 || list >= LISTS) {
            throw new IndexOutOfBoundsException("no such list");
        }
        return lists[list];
    }

    private Cursor cursorAt(int cursor) {
        if (cursor < 0 || cursor >= CURSORS) {
            throw new IndexOutOfBoundsException("no such cursor");
        }
        return cursors[cursor];
    }

    private static void demandPlace(Row row, int place) {
        if (!row.hasPlace(place)) {
            throw new IndexOutOfBoundsException("no such place");
        }
    }

    private static void demandGap(Row row, int place) {
        if (!row.hasGap(place)) {
            throw new IndexOutOfBoundsException("no such place to stand or to put");
        }
    }

    private static void demandWithin(int number, int least, int most) {
        if (number < least || number > most) {
            throw new IllegalArgumentException("a number out of its range");
        }
    }

    private static void demandItem(int item) {
        demandWithin(item, -ITEM_MOST, ITEM_MOST);
    }

    private static void demandThere(Cursor cursor) {
        if (!cursor.isThere) {
            throw new IllegalStateException("the cursor is not there");
        }
    }

    // ---- what acts share

    private int refuse() {
        refusals++;
        return REFUSED;
    }

    private void makeStale(int list, int butCursor) {
        for (int cursor = 0; cursor < CURSORS; cursor++) {
            if (cursor != butCursor && cursors[cursor].list == list) {
                cursors[cursor].isStale = true;
            }
        }
    }

    private int putInto(int list, int place, int item) {
        Row row = listAt(list);
        if (!row.putIn(place, item)) {
            return refuse();
        }
        makeStale(list, NONE);
        return row.count;
    }

    private int takeFrom(int list, int place) {
        int item = listAt(list).takeOut(place);
        makeStale(list, NONE);
        return item;
    }

    private int becomeResult(int list, boolean canBe) {
        if (!canBe) {
            return refuse();
        }
        listAt(list).become(result);
        makeStale(list, NONE);
        return result.count;
    }

    private static int endOf(Row row, int way) {
        return way == 1 || way == 3 ? row.count - 1 : 0;
    }

    private static int firstOf(Row row) {
        return row.count == 0 ? NOTHING : row.itemAt(0);
    }

    private static int numberOf(boolean isSo) {
        return isSo ? 1 : 0;
    }

    private Row rowUnder(Cursor cursor) {
        return listAt(cursor.list);
    }

    private static int sumUntilMet(Cursor a, Cursor b, Row row) {
        int sum = 0;
        // Each step brings them nearer by one, so they meet within as many steps as a list has items.
        for (int step = 0; step < ITEMS_MOST && a.index < b.index; step++) {
            sum += step % 2 == 0 ? a.stepForth(row) : b.stepBack(row);
        }
        return sum;
    }

    private int whereIs(Cursor cursor, int what) {
        switch (what) {
            case 1:
                return cursor.index;
            case 2:
                return cursor.index - 1;
            case 3:
                return numberOf(cursor.index < rowUnder(cursor).count);
            default:
                return numberOf(cursor.index > 0);
        }
    }

    private int itemsOfAll() {
        int sum = 0;
        for (int list = 0; list < LISTS; list++) {
            sum += lists[list].count;
        }
        return sum;
    }

    private int cursorsThere() {
        int sum = 0;
        for (int cursor = 0; cursor < CURSORS; cursor++) {
            sum += numberOf(cursors[cursor].isThere);
        }
        return sum;
    }

    private int cursorsStale() {
        int sum = 0;
        for (int cursor = 0; cursor < CURSORS; cursor++) {
            sum += numberOf(cursors[cursor].isThere && cursors[cursor].isStale);
        }
        return sum;
    }

    // ---- soundness: all of it on the spare row, so that asking changes nothing

    private boolean turnsBack(Row row) {
        result.become(row);
        result.turnRound();
        result.turnRound();
        if (!result.isAs(row)) {
            return false;
        }
        result.turnBy(1);
        result.turnBy(-1);
        return result.isAs(row);
    }

    private boolean addsUp(Row one, Row other) {
        if (result.becomeSum(one, other) && !agreesWithResult(one, other, false)) {
            return false;
        }
        return !result.becomeProduct(one, other) || agreesWithResult(one, other, true);
    }

    private boolean agreesWithResult(Row one, Row other, boolean isProduct) {
        return isResultAt(one, other, isProduct, 2)
                && isResultAt(one, other, isProduct, 3)
                && isResultAt(one, other, isProduct, -1);
    }

    private boolean isResultAt(Row one, Row other, boolean isProduct, int x) {
        int a = one.restAt(x);
        int b = other.restAt(x);
        return result.restAt(x) == Math.floorMod(isProduct ? a * b : a + b, MODULUS);
    }

    private boolean isRecencySound() {
        if (!recency.keys.isOrder()) {
            return false;
        }
        for (int list = 0; list < LISTS; list++) {
            if (lists[list].isOrder() && recency.cost > recency.boundBy(lists[list])) {
                return false;
            }
        }
        return true;
    }

    // ---- the checksum

    private static long mixed(long d, long v) {
        return d * DIGEST_FACTOR + v;
    }

    private static long mixedWithItems(long d, Row row) {
        long mix = d;
        for (int place = 0; place < row.count; place++) {
            mix = mixed(mix, row.itemAt(place));
        }
        return mix;
    }

    private static long mixedWithList(long d, Row row) {
        long mix = mixedWithItems(mixed(d, row.count), row);
        mix = mixed(mix, row.restAt(2));
        return mixed(mix, row.lastNotZero());
    }

    private long mixedWithOrder(long d, Row row) {
        if (!row.isOrder()) {
            return mixed(d, 0);
        }
        long mix = mixed(d, 1);
        mix = mixed(mix, recency.costBy(row));
        mix = mixed(mix, row.inversions());
        return mixed(mix, recency.boundBy(row));
    }

    /** The items of one list. No method of it uses a place that it has not looked at. */
    private static final class Row {

        private final int[] items = new int[ITEMS_MOST];
        private int count;

        private boolean hasPlace(int place) {
            return place >= 0 && place < count;
        }

        private boolean hasGap(int place) {
            return place >= 0 && place <= count;
        }

        // 0 where no item is, as sums and products of polynomials want it.
        private int itemAt(int place) {
            return hasPlace(place) ? items[place] : 0;
        }

        private void changeAt(int place, int item) {
            if (hasPlace(place)) {
                items[place] = item;
            }
        }

        private boolean putIn(int place, int item) {
            if (count >= ITEMS_MOST || !hasGap(place)) {
                return false;
            }
            for (int behind = count; behind > place; behind--) {
                items[behind] = items[behind - 1];
            }
            items[place] = item;
            count++;
            return true;
        }

        // What is no place takes nothing out.
        private int takeOut(int place) {
            if (!hasPlace(place)) {
                return 0;
            }
            int item = items[place];
            for (int behind = place + 1; behind < count; behind++) {
                items[behind - 1] = items[behind];
            }
            count--;
            return item;
        }

        private int takeOutAll(int item) {
            int before = count;
            int kept = 0;
            for (int place = 0; place < before; place++) {
                if (items[place] != item) {
                    items[kept] = items[place];
                    kept++;
                }
            }
            count = kept;
            return before - kept;
        }

        private int placeOf(int item, boolean isLast) {
            int found = NONE;
            for (int place = 0; place < count; place++) {
                if (items[place] == item && (isLast || found == NONE)) {
                    found = place;
                }
            }
            return found;
        }

        private int lastNotZero() {
            int found = NONE;
            for (int place = 0; place < count; place++) {
                if (items[place] != 0) {
                    found = place;
                }
            }
            return found;
        }

        private boolean isAs(Row other) {
            if (count != other.count) {
                return false;
            }
            for (int place = 0; place < count; place++) {
                if (items[place] != other.items[place]) {
                    return false;
                }
            }
            return true;
        }

        private String joined(boolean isDown) {
            StringBuilder text = new StringBuilder();
            for (int told = 0; told < count; told++) {
                if (told > 0) {
                    text.append(' ');
                }
                text.append(items[isDown ? count - 1 - told : told]);
            }
            return text.toString();
        }

        private void exchange(int one, int other) {
            int item = itemAt(one);
            changeAt(one, itemAt(other));
            changeAt(other, item);
        }

        private void turnRound() {
            for (int place = 0; place < count / 2; place++) {
                exchange(place, count - 1 - place);
            }
        }

        private void turnBy(int by) {
            int steps = count == 0 ? 0 : Math.floorMod(by, count);
            for (int step = 0; step < steps; step++) {
                putIn(0, takeOut(count - 1));
            }
        }

        private void become(Row other) {
            for (int place = 0; place < other.count; place++) {
                items[place] = other.items[place];
            }
            count = other.count;
        }

        private void becomePlaces(int many) {
            count = 0;
            for (int place = 0; place < many; place++) {
                addBehind(place);
            }
        }

        // The methods below tell whether it can be; they build this row anew, so it is never one that they read.

        private boolean addBehind(int item) {
            return item >= -ITEM_MOST && item <= ITEM_MOST && putIn(count, item);
        }

        private boolean becomeJoined(Row row, int place, Row more) {
            if (row.count + more.count > ITEMS_MOST) {
                return false;
            }
            become(row);
            for (int taken = 0; taken < more.count; taken++) {
                putIn(place + taken, more.itemAt(taken));
            }
            return true;
        }

        private boolean becomeThrough(Row row, Row map) {
            count = 0;
            for (int step = 0; step < map.count; step++) {
                int place = map.itemAt(step);
                if (!row.hasPlace(place)) {
                    return false;
                }
                addBehind(row.itemAt(place));
            }
            return true;
        }

        private boolean becomeSum(Row one, Row other) {
            count = 0;
            int many = Math.max(one.count, other.count);
            for (int place = 0; place < many; place++) {
                if (!addBehind(one.itemAt(place) + other.itemAt(place))) {
                    return false;
                }
            }
            return true;
        }

        private boolean becomeProduct(Row one, Row other) {
            count = 0;
            int many = one.count == 0 || other.count == 0 ? 0 : one.count + other.count - 1;
            if (many > ITEMS_MOST) {
                return false;
            }
            for (int place = 0; place < many; place++) {
                if (!addBehind(coefficientOfProduct(one, other, place))) {
                    return false;
                }
            }
            return true;
        }

        // An int holds the sum: it has at most 16 products of at most 9999 times 9999 that are not 0.
        private static int coefficientOfProduct(Row one, Row other, int place) {
            int sum = 0;
            for (int ahead = 0; ahead <= place; ahead++) {
                sum += one.itemAt(ahead) * other.itemAt(place - ahead);
            }
            return sum;
        }

        private boolean becomeDerived(Row row) {
            count = 0;
            for (int place = 1; place < row.count; place++) {
                if (!addBehind(row.itemAt(place) * place)) {
                    return false;
                }
            }
            return true;
        }

        private int restAt(int x) {
            int rest = 0;
            for (int place = count - 1; place >= 0; place--) {
                rest = Math.floorMod(rest * x + items[place], MODULUS);
            }
            return rest;
        }

        // With as many items as keys, each key that is there is there just once.
        private boolean isOrder() {
            if (count != KEYS) {
                return false;
            }
            for (int key = 0; key < KEYS; key++) {
                if (placeOf(key, false) == NONE) {
                    return false;
                }
            }
            return true;
        }

        private int inversions() {
            int sum = 0;
            for (int ahead = 0; ahead < count; ahead++) {
                for (int behind = ahead + 1; behind < count; behind++) {
                    if (items[ahead] > items[behind]) {
                        sum++;
                    }
                }
            }
            return sum;
        }
    }

    /** One cursor. It knows its list by number, so that what changes that list can find it. */
    private static final class Cursor {

        private boolean isThere;
        private boolean isStale;
        private int list;
        private int index;
        private int last = NONE;

        private void begin(int overList, int place) {
            isThere = true;
            isStale = false;
            list = overList;
            index = place;
            last = NONE;
        }

        private int stepForth(Row row) {
            if (!row.hasPlace(index)) {
                return NOTHING;
            }
            last = index;
            index++;
            return row.itemAt(last);
        }

        private int stepBack(Row row) {
            if (!row.hasPlace(index - 1)) {
                return NOTHING;
            }
            index--;
            last = index;
            return row.itemAt(last);
        }

        private boolean putHere(Row row, int item) {
            if (!row.putIn(index, item)) {
                return false;
            }
            index++;
            last = NONE;
            return true;
        }

        private void cutLast(Row row) {
            row.takeOut(last);
            if (last < index) {
                index--;
            }
            last = NONE;
        }
    }

    /** The keys by recency, and what asking them has cost. */
    private static final class Recency {

        private final Row keys = new Row();
        private final int[] timesAsked = new int[KEYS];
        private int askings;
        private int cost;
        private int lastKey;

        private Recency() {
            begin();
        }

        private void begin() {
            keys.becomePlaces(KEYS);
            for (int key = 0; key < KEYS; key++) {
                timesAsked[key] = 0;
            }
            askings = 0;
            cost = 0;
            lastKey = NONE;
        }

        private int bringAhead(int key) {
            int place = keys.placeOf(key, false);
            keys.takeOut(place);
            keys.putIn(0, key);
            if (key >= 0 && key < KEYS) {
                timesAsked[key]++;
            }
            askings++;
            cost += place + 1;
            lastKey = key;
            return place + 1;
        }

        // How often each key was asked is enough: a list that stays as it is asks the same of each asking of a key.
        private int costBy(Row order) {
            int sum = 0;
            for (int key = 0; key < KEYS; key++) {
                sum += timesAsked[key] * (order.placeOf(key, false) + 1);
            }
            return sum;
        }

        private int boundBy(Row order) {
            return 2 * costBy(order) - askings + order.inversions();
        }
    }
}
