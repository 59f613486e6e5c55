import java.math.BigInteger;
import java.util.ArrayList;
import java.util.Arrays;
import java.util.Collections;
import java.util.Iterator;
import java.util.LinkedList;
import java.util.List;
import java.util.ListIterator;
import java.util.StringJoiner;

/** The document once more, told by java.util.LinkedList and its ListIterator; slow, and written to be compared with. */
final class Model {

    private final List<LinkedList<Integer>> lists = new ArrayList<>();
    private final int[] versions = new int[4];
    private final Standing[] cursors = new Standing[3];
    private final LinkedList<Integer> recent = new LinkedList<>();
    private final List<Integer> askings = new ArrayList<>();
    private int costs = 0;
    private int refusals = 0;
    private int knocks = 0;

    private static final class Standing {
        int list;
        int version;
        ListIterator<Integer> iterator;
    }

    Model() {
        for (int list = 0; list < 4; list++) {
            lists.add(new LinkedList<>());
        }
        recent.addAll(List.of(0, 1, 2, 3, 4, 5, 6, 7));
    }

    public int put(int list, int way, int item) {
        LinkedList<Integer> l = list(list);
        argument(way >= 0 && way <= 5 && isItem(item));
        if (l.size() == 16) {
            return refused();
        }
        switch (way) {
            case 0 -> l.addFirst(item);
            case 1 -> l.addLast(item);
            case 2 -> l.offerFirst(item);
            case 3 -> l.offerLast(item);
            case 4 -> l.push(item);
            default -> l.offer(item);
        }
        return changed(list);
    }

    public int take(int list, int way) {
        LinkedList<Integer> l = list(list);
        argument(way >= 0 && way <= 6);
        if (l.isEmpty() && List.of(0, 1, 4, 5).contains(way)) {
            return refused();
        }
        Integer item = switch (way) {
            case 0 -> l.removeFirst();
            case 1 -> l.removeLast();
            case 2 -> l.pollFirst();
            case 3 -> l.pollLast();
            case 4 -> l.pop();
            case 5 -> l.remove();
            default -> l.poll();
        };
        changed(list);
        return orNothing(item);
    }

    public int look(int list, int way) {
        LinkedList<Integer> l = list(list);
        argument(way >= 0 && way <= 5);
        if (l.isEmpty() && List.of(0, 1, 4).contains(way)) {
            return refused();
        }
        return orNothing(switch (way) {
            case 0 -> l.getFirst();
            case 1 -> l.getLast();
            case 2 -> l.peekFirst();
            case 3 -> l.peekLast();
            case 4 -> l.element();
            default -> l.peek();
        });
    }

    public int get(int list, int place) {
        return list(list).get(place);
    }

    public int set(int list, int place, int item) {
        list(list).get(place);
        argument(isItem(item));
        return list(list).set(place, item);
    }

    public int insert(int list, int place, int item) {
        LinkedList<Integer> l = list(list);
        index(place >= 0 && place <= l.size());
        argument(isItem(item));
        if (l.size() == 16) {
            return refused();
        }
        l.add(place, item);
        return changed(list);
    }

    public int removeAt(int list, int place) {
        int item = list(list).remove(place);
        changed(list);
        return item;
    }

    public boolean drop(int list, int item, boolean isLast) {
        LinkedList<Integer> l = list(list);
        changed(list);
        return isLast ? l.removeLastOccurrence(item) : l.removeFirstOccurrence(item);
    }

    public int thin(int list, int item) {
        LinkedList<Integer> l = list(list);
        int many = Collections.frequency(l, item);
        l.removeIf(each -> each == item);
        changed(list);
        return many;
    }

    public int indexOf(int list, int item, boolean isLast) {
        return isLast ? list(list).lastIndexOf(item) : list(list).indexOf(item);
    }

    public boolean has(int list, int item) {
        return list(list).contains(item);
    }

    public int size(int list) {
        return list(list).size();
    }

    public String text(int list, boolean isDown) {
        LinkedList<Integer> l = list(list);
        return joined(isDown ? l.descendingIterator() : l.iterator());
    }

    public int clear(int list) {
        int many = list(list).size();
        list(list).clear();
        changed(list);
        return many;
    }

    public int append(int list, int from) {
        return appendAt(list, list(list).size(), from);
    }

    public int appendAt(int list, int place, int from) {
        LinkedList<Integer> l = list(list);
        List<Integer> more = new ArrayList<>(list(from));
        index(place >= 0 && place <= l.size());
        if (l.size() + more.size() > 16) {
            return refused();
        }
        l.addAll(place, more);
        return changed(list);
    }

    public int copy(int list, int into) {
        list(into);
        return become(into, new ArrayList<>(list(list)));
    }

    public int places(int list, int many) {
        list(list);
        argument(many >= 0 && many <= 16);
        List<Integer> all = new ArrayList<>();
        while (all.size() < many) {
            all.add(all.size());
        }
        return become(list, all);
    }

    public int rotate(int list, int by) {
        LinkedList<Integer> l = list(list);
        argument(by >= -99 && by <= 99);
        Collections.rotate(l, by);
        changed(list);
        return orNothing(l.peek());
    }

    public int move(int list, int from, int to) {
        LinkedList<Integer> l = list(list);
        l.get(from);
        l.get(to);
        int item = l.remove(from);
        l.add(to, item);
        changed(list);
        return item;
    }

    public int swap(int list, int one, int other) {
        LinkedList<Integer> l = list(list);
        Collections.swap(l, one, other);
        return l.get(one);
    }

    public int reverse(int list) {
        LinkedList<Integer> l = list(list);
        Collections.reverse(l);
        return orNothing(l.peek());
    }

    public int through(int list, int map, int into) {
        LinkedList<Integer> l = list(list);
        LinkedList<Integer> m = list(map);
        list(into);
        if (m.stream().anyMatch(place -> place < 0 || place >= l.size())) {
            return refused();
        }
        return become(into, m.stream().map(l::get).toList());
    }

    public boolean areSame(int list, int other) {
        return list(list).equals(list(other));
    }

    public boolean isMirror(int list) {
        List<Integer> turned = new ArrayList<>(list(list));
        Collections.reverse(turned);
        return turned.equals(list(list));
    }

    public int open(int cursor, int list, int place) {
        index(cursor >= 0 && cursor < 3);
        Standing s = new Standing();
        s.iterator = list(list).listIterator(place);
        s.list = list;
        s.version = versions[list];
        cursors[cursor] = s;
        return lists.get(list).size() - place;
    }

    public boolean shut(int cursor) {
        index(cursor >= 0 && cursor < 3);
        boolean wasThere = cursors[cursor] != null;
        cursors[cursor] = null;
        return wasThere;
    }

    public int forth(int cursor) {
        Standing s = cursor(cursor);
        if (isStale(s)) {
            return refused();
        }
        return s.iterator.hasNext() ? s.iterator.next() : 10000;
    }

    public int back(int cursor) {
        Standing s = cursor(cursor);
        if (isStale(s)) {
            return refused();
        }
        return s.iterator.hasPrevious() ? s.iterator.previous() : 10000;
    }

    public int puts(int cursor, int item) {
        index(cursor >= 0 && cursor < 3);
        argument(isItem(item));
        Standing s = cursor(cursor);
        if (isStale(s) || lists.get(s.list).size() == 16) {
            return refused();
        }
        s.iterator.add(item);
        changed(s.list);
        s.version = versions[s.list];
        return s.iterator.nextIndex();
    }

    public int cuts(int cursor) {
        Standing s = cursor(cursor);
        if (isStale(s)) {
            return refused();
        }
        try {
            s.iterator.remove();
        } catch (IllegalStateException e) {
            return refused();
        }
        changed(s.list);
        s.version = versions[s.list];
        return s.iterator.nextIndex();
    }

    public int changes(int cursor, int item) {
        index(cursor >= 0 && cursor < 3);
        argument(isItem(item));
        Standing s = cursor(cursor);
        if (isStale(s)) {
            return refused();
        }
        try {
            s.iterator.set(item);
        } catch (IllegalStateException e) {
            return refused();
        }
        return s.iterator.nextIndex();
    }

    public int meet(int cursor, int other) {
        index(cursor >= 0 && cursor < 3 && other >= 0 && other < 3);
        argument(cursor != other);
        Standing a = cursor(cursor);
        Standing b = cursor(other);
        if (isStale(a) || isStale(b) || a.list != b.list || a.iterator.nextIndex() > b.iterator.nextIndex()) {
            return refused();
        }
        int sum = 0;
        while (a.iterator.nextIndex() < b.iterator.nextIndex()) {
            sum += a.iterator.next();
            if (a.iterator.nextIndex() < b.iterator.nextIndex()) {
                sum += b.iterator.previous();
            }
        }
        return sum;
    }

    public int ofCursor(int cursor, int what) {
        index(cursor >= 0 && cursor < 3);
        argument(what >= 0 && what <= 5);
        Standing s = cursors[cursor];
        if (s == null || isStale(s) && what != 0 && what != 5) {
            return -1;
        }
        return switch (what) {
            case 0 -> s.list;
            case 1 -> s.iterator.nextIndex();
            case 2 -> s.iterator.previousIndex();
            case 3 -> s.iterator.hasNext() ? 1 : 0;
            case 4 -> s.iterator.hasPrevious() ? 1 : 0;
            default -> isStale(s) ? 1 : 0;
        };
    }

    public int plus(int list, int other) {
        List<Integer> p = list(list);
        List<Integer> q = list(other);
        long[] sum = new long[Math.max(p.size(), q.size())];
        for (int place = 0; place < p.size(); place++) {
            sum[place] += p.get(place);
        }
        for (int place = 0; place < q.size(); place++) {
            sum[place] += q.get(place);
        }
        return becomeIfItems(list, sum);
    }

    public int times(int list, int other) {
        List<Integer> p = list(list);
        List<Integer> q = list(other);
        long[] product = new long[p.isEmpty() || q.isEmpty() ? 0 : p.size() + q.size() - 1];
        for (int one = 0; one < p.size(); one++) {
            for (int two = 0; two < q.size(); two++) {
                product[one + two] += (long) p.get(one) * q.get(two);
            }
        }
        return becomeIfItems(list, product);
    }

    public int shift(int list) {
        List<Integer> p = list(list);
        long[] shifted = new long[p.isEmpty() ? 0 : p.size() + 1];
        for (int place = 0; place < p.size(); place++) {
            shifted[place + 1] = p.get(place);
        }
        return becomeIfItems(list, shifted);
    }

    public int trim(int list) {
        LinkedList<Integer> l = list(list);
        int many = 0;
        while (!l.isEmpty() && l.getLast() == 0) {
            l.removeLast();
            many++;
        }
        changed(list);
        return many;
    }

    public int derive(int list) {
        List<Integer> p = list(list);
        long[] derived = new long[Math.max(0, p.size() - 1)];
        for (int place = 1; place < p.size(); place++) {
            derived[place - 1] = (long) place * p.get(place);
        }
        return becomeIfItems(list, derived);
    }

    public int value(int list, int x) {
        List<Integer> p = list(list);
        argument(x >= -99 && x <= 99);
        BigInteger sum = BigInteger.ZERO;
        for (int place = 0; place < p.size(); place++) {
            sum = sum.add(BigInteger.valueOf(x).pow(place).multiply(BigInteger.valueOf(p.get(place))));
        }
        return sum.mod(BigInteger.valueOf(9973)).intValueExact();
    }

    public int degree(int list) {
        List<Integer> p = list(list);
        for (int place = p.size() - 1; place >= 0; place--) {
            if (p.get(place) != 0) {
                return place;
            }
        }
        return -1;
    }

    public int ask(int key) {
        argument(key >= 0 && key <= 7);
        if (askings.size() == 60) {
            throw new IllegalStateException();
        }
        int cost = recent.indexOf(key) + 1;
        recent.removeFirstOccurrence(key);
        recent.push(key);
        askings.add(key);
        costs += cost;
        return cost;
    }

    public int forget() {
        int many = askings.size();
        askings.clear();
        costs = 0;
        Collections.sort(recent);
        return many;
    }

    public int asked(int what) {
        argument(what >= 0 && what <= 3);
        return switch (what) {
            case 0 -> askings.size();
            case 1 -> costs;
            case 2 -> askings.isEmpty() ? -1 : askings.get(askings.size() - 1);
            default -> recent.getLast();
        };
    }

    public String recent() {
        return joined(recent.iterator());
    }

    public int byOrder(int list, int what) {
        list(list);
        argument(what >= 0 && what <= 2);
        return isOrder(list) ? tellOrder(list, what) : refused();
    }

    public int house(int what) {
        argument(what >= 0 && what <= 4);
        return switch (what) {
            case 0 -> lists.stream().mapToInt(List::size).sum();
            case 1 -> (int) Arrays.stream(cursors).filter(s -> s != null).count();
            case 2 -> (int) Arrays.stream(cursors).filter(s -> s != null && isStale(s)).count();
            case 3 -> refusals;
            default -> knocks;
        };
    }

    public int knock() {
        return ++knocks;
    }

    public boolean isSound() {
        return true;
    }

    public long digest() {
        List<Integer> all = new ArrayList<>();
        for (int what = 0; what <= 4; what++) {
            all.add(house(what));
        }
        for (int list = 0; list < 4; list++) {
            all.add(size(list));
            all.addAll(list(list));
            all.add(value(list, 2));
            all.add(degree(list));
        }
        for (int cursor = 0; cursor < 3; cursor++) {
            for (int what = 0; what <= 5; what++) {
                all.add(ofCursor(cursor, what));
            }
        }
        for (int what = 0; what <= 3; what++) {
            all.add(asked(what));
        }
        all.addAll(recent);
        for (int list = 0; list < 4; list++) {
            all.add(isOrder(list) ? 1 : 0);
            for (int what = 0; isOrder(list) && what <= 2; what++) {
                all.add(tellOrder(list, what));
            }
        }
        all.add(isSound() ? 1 : 0);
        long d = 7834;
        for (int v : all) {
            d = d * 31 + v;
        }
        return d;
    }

    private boolean isOrder(int list) {
        List<Integer> sorted = new ArrayList<>(list(list));
        Collections.sort(sorted);
        return sorted.equals(List.of(0, 1, 2, 3, 4, 5, 6, 7));
    }

    private int tellOrder(int list, int what) {
        List<Integer> order = list(list);
        int cost = 0;
        for (int key : askings) {
            cost += 1 + order.indexOf(key);
        }
        int inversions = 0;
        for (int a = 0; a < 8; a++) {
            for (int b = a + 1; b < 8; b++) {
                inversions += order.indexOf(b) < order.indexOf(a) ? 1 : 0;
            }
        }
        return what == 0 ? cost : what == 1 ? inversions : 2 * cost - askings.size() + inversions;
    }

    private LinkedList<Integer> list(int list) {
        index(list >= 0 && list < 4);
        return lists.get(list);
    }

    private Standing cursor(int cursor) {
        index(cursor >= 0 && cursor < 3);
        if (cursors[cursor] == null) {
            throw new IllegalStateException();
        }
        return cursors[cursor];
    }

    private boolean isStale(Standing s) {
        return s.version != versions[s.list];
    }

    private int changed(int list) {
        versions[list]++;
        return lists.get(list).size();
    }

    private int refused() {
        refusals++;
        return -1000009;
    }

    private int become(int list, List<Integer> items) {
        lists.get(list).clear();
        lists.get(list).addAll(items);
        return changed(list);
    }

    private int becomeIfItems(int list, long[] items) {
        if (items.length > 16 || Arrays.stream(items).anyMatch(item -> Math.abs(item) > 9999)) {
            return refused();
        }
        return become(list, Arrays.stream(items).mapToObj(item -> (int) item).toList());
    }

    private static boolean isItem(int item) {
        return item >= -9999 && item <= 9999;
    }

    private static int orNothing(Integer item) {
        return item == null ? 10000 : item;
    }

    private static String joined(Iterator<Integer> items) {
        StringJoiner text = new StringJoiner(" ");
        items.forEachRemaining(item -> text.add(item.toString()));
        return text.toString();
    }

    private static void index(boolean isThere) {
        if (!isThere) {
            throw new IndexOutOfBoundsException();
        }
    }

    private static void argument(boolean isGood) {
        if (!isGood) {
            throw new IllegalArgumentException();
        }
    }
}
