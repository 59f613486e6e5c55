/** Promises 36 to 42: each boundary case that a sentence names, in a test of its own. */
final class PolynomialEdgesTest {

    private PolynomialEdgesTest() {
    }

    public static void main(String[] args) {
        plus();
        plusBeyondItems();
        times();
        timesTooLong();
        timesBeyondItems();
        shift();
        trim();
        derive();
        afterRefused();
        value();
        valueRests();
        degree();
        Check.end();
    }

    private static void plus() {
        Edge.places("36: plus: list", 0, 3, Edge.watched("1", "3"), (x, list) -> x.plus(list, 0));
        Edge.places("36: plus: other", 0, 3, Edge.watched("1", "3"), (x, other) -> x.plus(0, other));
        Edge.becomes("36: plus: none and none", Edge.lists("", ""), x -> x.plus(0, 1), 0);
        Edge.becomes("36: plus: none and itself", Edge.lists("", "3"), x -> x.plus(0, 0), 0, "", "3");
        Edge.becomes("36: plus: none and some", Edge.lists("", "4 5"), x -> x.plus(0, 1), 2, "4 5", "4 5");
        Edge.becomes("36: plus: some and none", Edge.lists("4 5", ""), x -> x.plus(0, 1), 2, "4 5", "");
        Edge.becomes("36: plus: the other is longer", Edge.lists("4", "1 -2 3"), x -> x.plus(0, 1), 3, "5 -2 3",
                "1 -2 3");
        Edge.becomes("36: plus: the other is shorter", Edge.lists("1 -2 3", "4"), x -> x.plus(0, 1), 3, "5 -2 3", "4");
        Edge.becomes("36: plus: both as long", Edge.lists("1 2", "4 5"), x -> x.plus(0, 1), 2, "5 7", "4 5");
        Edge.becomes("36: plus: itself", Edge.lists("4 -5 0"), x -> x.plus(0, 0), 3, "8 -10 0");
        Edge.becomes("36: plus: sums that are 0 stay", Edge.lists("4 5", "-4 -5"), x -> x.plus(0, 1), 2, "0 0",
                "-4 -5");
        Edge.becomes("36: plus: 16 and 16", Edge.lists(Edge.times(16, 5), Edge.times(16, -6)), x -> x.plus(0, 1), 16,
                Edge.times(16, -1), Edge.times(16, -6));
        Edge.becomes("36: plus: one and 16", Edge.lists("7", Edge.SIXTEEN), x -> x.plus(0, 1), 16,
                "7" + Edge.SIXTEEN.substring(1), Edge.SIXTEEN);
        Edge.makesStale("36: plus makes stale over list alone", 0, Edge.lists("4 5", "6"), x -> x.plus(0, 1));
        Edge.makesStale("36: plus makes stale, also if it changes nothing", 0, Edge.lists("4 5", ""),
                x -> x.plus(0, 1));
        Edge.makesStale("36: plus itself makes stale, also with none", 2, Edge.lists("4 5", ""), x -> x.plus(2, 2));
    }

    private static void plusBeyondItems() {
        Edge.becomes("36: plus: just 9999", Edge.lists("9998", "1"), x -> x.plus(0, 1), 1, "9999", "1");
        Edge.becomes("36: plus: just -9999", Edge.lists("-9998", "-1"), x -> x.plus(0, 1), 1, "-9999", "-1");
        Edge.becomes("36: plus: 9999 and its contrary", Edge.lists("9999", "-9999"), x -> x.plus(0, 1), 1, "0",
                "-9999");
        Edge.refuses("36: plus: 10000", Edge.watched("9999", "1"), x -> x.plus(0, 1));
        Edge.refuses("36: plus: -10000", Edge.watched("-9999", "-1"), x -> x.plus(0, 1));
        Edge.refuses("36: plus: the most and the most", Edge.watched("9999", "9999"), x -> x.plus(0, 1));
        Edge.refuses("36: plus: 10000 at the last place alone", Edge.watched("1 2 5000", "3 4 5000"),
                x -> x.plus(0, 1));
        Edge.refuses("36: plus: 10000 at the first place alone", Edge.watched("5000 1", "5000 2 3"), x -> x.plus(0, 1));
        Edge.refuses("36: plus: itself", Edge.watched("0 5000"), x -> x.plus(0, 0));
        Edge.becomes("36: plus: itself, just so", Edge.lists("4999 -4999"), x -> x.plus(0, 0), 2, "9998 -9998");
        Edge.noPlace("36: plus: other goes ahead of REFUSED", Edge.watched("9999"), x -> x.plus(0, 4));
        Edge.leavesCursors("36: plus REFUSED leaves cursors", Edge.lists("9999", "1"), x -> x.plus(0, 1));
    }

    private static void times() {
        Edge.places("37: times: list", 0, 3, Edge.watched("1", "3"), (x, list) -> x.times(list, 0));
        Edge.places("37: times: other", 0, 3, Edge.watched("1", "3"), (x, other) -> x.times(0, other));
        Edge.becomes("37: times: none and none", Edge.lists("", ""), x -> x.times(0, 1), 0);
        Edge.becomes("37: times: none and itself", Edge.lists("", "3"), x -> x.times(0, 0), 0, "", "3");
        Edge.becomes("37: times: none and some", Edge.lists("", "4 5"), x -> x.times(0, 1), 0, "", "4 5");
        Edge.becomes("37: times: some and none", Edge.lists("4 5", ""), x -> x.times(0, 1), 0);
        Edge.becomes("37: times: one and one", Edge.lists("4", "-5"), x -> x.times(0, 1), 1, "-20", "-5");
        Edge.becomes("37: times: by 1", Edge.lists("4 5 6", "1"), x -> x.times(0, 1), 3, "4 5 6", "1");
        Edge.becomes("37: times: by 0 it stays as long", Edge.lists("4 5 6", "0"), x -> x.times(0, 1), 3, "0 0 0", "0");
        Edge.becomes("37: times: products that are 0 at the end stay", Edge.lists("4 0", "5 0"), x -> x.times(0, 1), 3,
                "20 0 0", "5 0");
        Edge.becomes("37: times: some", Edge.lists("1 2", "3 0 -5"), x -> x.times(0, 1), 4, "3 6 -5 -10", "3 0 -5");
        Edge.becomes("37: times: itself", Edge.lists("3 0 -5"), x -> x.times(0, 0), 5, "9 0 -30 0 25");
        Edge.makesStale("37: times makes stale over list alone", 0, Edge.lists("4 5", "6"), x -> x.times(0, 1));
        Edge.makesStale("37: times makes stale, also if it changes nothing", 0, Edge.lists("4 5", "1"),
                x -> x.times(0, 1));
        Edge.makesStale("37: times makes stale, also none by none", 2, Edge.lists("4 5", "1"), x -> x.times(2, 3));
    }

    private static void timesTooLong() {
        Edge.becomes("37: times: 16 by one", Edge.lists(Edge.SIXTEEN, "-1"), x -> x.times(0, 1), 16,
                "0 -1 -2 -3 -4 -5 -6 -7 -8 -9 -10 -11 -12 -13 -14 -15", "-1");
        Edge.becomes("37: times: one by 16", Edge.lists("1", Edge.SIXTEEN),
                x -> x.times(0, 1), 16, Edge.SIXTEEN, Edge.SIXTEEN);
        Edge.becomes("37: times: 15 by two", Edge.lists(Edge.FIFTEEN, "0 1"), x -> x.times(0, 1), 16,
                "0 " + Edge.FIFTEEN, "0 1");
        Edge.becomes("37: times: 9 by 8", Edge.lists(Edge.times(9, 1), Edge.times(8, 1)), x -> x.times(0, 1), 16,
                "1 2 3 4 5 6 7 8 8 7 6 5 4 3 2 1", Edge.times(8, 1));
        Edge.becomes("37: times: 8 by itself", Edge.lists(Edge.times(8, 1)), x -> x.times(0, 0), 15,
                "1 2 3 4 5 6 7 8 7 6 5 4 3 2 1");
        Edge.becomes("37: times: 16 by none", Edge.lists(Edge.SIXTEEN, ""), x -> x.times(0, 1), 0);
        Edge.becomes("37: times: none by 16", Edge.lists("", Edge.SIXTEEN), x -> x.times(0, 1), 0, "", Edge.SIXTEEN);
        Edge.refuses("37: times: 16 by two", Edge.watched(Edge.SIXTEEN, "1 0"), x -> x.times(0, 1));
        Edge.refuses("37: times: two by 16", Edge.watched("1 1", Edge.SIXTEEN), x -> x.times(0, 1));
        Edge.refuses("37: times: 9 by itself", Edge.watched(Edge.times(9, 1)), x -> x.times(0, 0));
        Edge.refuses("37: times: 17, though all are 0", Edge.watched(Edge.times(9, 0)), x -> x.times(0, 0));
        Edge.refuses("37: times: 31, though all are 0", Edge.watched(Edge.times(16, 0)), x -> x.times(0, 0));
        Edge.refuses("37: times: too long and beyond items is counted once", Edge.watched(Edge.times(16, 9999)),
                x -> x.times(0, 0));
    }

    private static void timesBeyondItems() {
        Edge.becomes("37: times: just 9999", Edge.lists("99", "101"), x -> x.times(0, 1), 1, "9999", "101");
        Edge.becomes("37: times: just -9999", Edge.lists("-99", "101"), x -> x.times(0, 1), 1, "-9999", "101");
        Edge.becomes("37: times: just 9999 of two products", Edge.lists("99 51", "99 50"), x -> x.times(0, 1), 3,
                "9801 9999 2550", "99 50");
        Edge.refuses("37: times: 10000", Edge.watched("100", "100"), x -> x.times(0, 1));
        Edge.refuses("37: times: -10000", Edge.watched("100", "-100"), x -> x.times(0, 1));
        Edge.refuses("37: times: 10000 at the last place alone", Edge.watched("1 100", "1 100"), x -> x.times(0, 1));
        Edge.refuses("37: times: 10000 at the first place alone", Edge.watched("100 1", "100 1"), x -> x.times(0, 1));
        Edge.refuses("37: times: 10000 between alone", Edge.watched("80 60", "100 50"), x -> x.times(0, 1));
        Edge.refuses("37: times: itself", Edge.watched("100"), x -> x.times(0, 0));
        Edge.becomes("37: times: a product beyond items, and a sum within", Edge.lists("50 120 50", "-50 120 -50"),
                x -> x.times(0, 1), 5, "-2500 0 9400 0 -2500", "-50 120 -50");
        Edge.noPlace("37: times: other goes ahead of REFUSED", Edge.watched(Edge.SIXTEEN), x -> x.times(0, 4));
        Edge.leavesCursors("37: times REFUSED leaves cursors", Edge.lists("100", "100"), x -> x.times(0, 1));
    }

    private static void shift() {
        Edge.places("38: shift: list", 0, 3, Edge.watched("1", "3"), (x, list) -> x.shift(list));
        Edge.becomes("38: shift: none stays none", Edge.lists("", "3"), x -> x.shift(0), 0, "", "3");
        Edge.becomes("38: shift: one", Edge.lists("4", "3"), x -> x.shift(0), 2, "0 4", "3");
        Edge.becomes("38: shift: one that is 0", Edge.lists("0", "3"), x -> x.shift(0), 2, "0 0", "3");
        Edge.becomes("38: shift: to just 16", Edge.lists(Edge.FIFTEEN), x -> x.shift(0), 16, "0 " + Edge.FIFTEEN);
        Edge.refuses("38: shift: to 17", Edge.watched(Edge.SIXTEEN), x -> x.shift(0));
        Edge.refuses("38: shift: to 17, though all are 0", Edge.watched(Edge.times(16, 0)), x -> x.shift(0));
        Edge.makesStale("38: shift makes stale", 0, Edge.lists("4 5", "3"), x -> x.shift(0));
        Edge.makesStale("38: shift makes stale, also with none", 0, Edge.lists("", "3"), x -> x.shift(0));
        Edge.leavesCursors("38: shift REFUSED leaves cursors", Edge.lists(Edge.SIXTEEN), x -> x.shift(0));
    }

    private static void trim() {
        Edge.places("39: trim: list", 0, 3, Edge.watched("1", "3"), (x, list) -> x.trim(list));
        Edge.becomes("39: trim: none", Edge.lists("", "3"), x -> x.trim(0), 0, "", "3");
        Edge.becomes("39: trim: one 0", Edge.lists("0", "3"), x -> x.trim(0), 1, "", "3");
        Edge.becomes("39: trim: all 16 are 0", Edge.lists(Edge.times(16, 0), "0"), x -> x.trim(0), 16, "", "0");
        Edge.becomes("39: trim: no 0 at the end", Edge.lists("0 4", "0"), x -> x.trim(0), 0, "0 4", "0");
        Edge.becomes("39: trim: 0 between stays", Edge.lists("0 4 0 -5 0 0"), x -> x.trim(0), 2, "0 4 0 -5");
        Edge.becomes("39: trim: all but the first of 16", Edge.lists("4 " + Edge.times(15, 0)), x -> x.trim(0), 15,
                "4");
        Edge.becomes("39: trim: 16 with the last not 0", Edge.lists(Edge.SIXTEEN), x -> x.trim(0), 0, Edge.SIXTEEN);
        Edge.makesStale("39: trim makes stale", 0, Edge.lists("4 0", "3"), x -> x.trim(0));
        Edge.makesStale("39: trim makes stale, also if nothing went", 0, Edge.lists("4 5", "3"), x -> x.trim(0));
        Edge.makesStale("39: trim makes stale, also with none", 0, Edge.lists("", "3"), x -> x.trim(0));
    }

    private static void derive() {
        Edge.places("40: derive: list", 0, 3, Edge.watched("1", "3"), (x, list) -> x.derive(list));
        Edge.becomes("40: derive: none", Edge.lists("", "3"), x -> x.derive(0), 0, "", "3");
        Edge.becomes("40: derive: one", Edge.lists("9999", "3"), x -> x.derive(0), 0, "", "3");
        Edge.becomes("40: derive: two", Edge.lists("4 -9999", "3"), x -> x.derive(0), 1, "-9999", "3");
        Edge.becomes("40: derive: zeros stay", Edge.lists("4 0 0"), x -> x.derive(0), 2, "0 0");
        Edge.becomes("40: derive: 16", Edge.lists(Edge.times(16, 1)), x -> x.derive(0), 15,
                "1 2 3 4 5 6 7 8 9 10 11 12 13 14 15");
        Edge.becomes("40: derive: just 9999", Edge.lists("0 0 0 3333"), x -> x.derive(0), 3, "0 0 9999");
        Edge.becomes("40: derive: just -9999", Edge.lists("0 0 0 -3333"), x -> x.derive(0), 3, "0 0 -9999");
        Edge.becomes("40: derive: 9999 at the first place is not looked at", Edge.lists("9999 1"), x -> x.derive(0), 1,
                "1");
        Edge.becomes("40: derive: 9990 at the last of 16", Edge.lists(Edge.times(15, 0) + " 666"), x -> x.derive(0), 15,
                Edge.times(14, 0) + " 9990");
        Edge.refuses("40: derive: 10000", Edge.watched("0 0 5000"), x -> x.derive(0));
        Edge.refuses("40: derive: -10000", Edge.watched("0 0 -5000"), x -> x.derive(0));
        Edge.refuses("40: derive: 10005 at the last of 16", Edge.watched(Edge.times(15, 0) + " 667"), x -> x.derive(0));
        Edge.refuses("40: derive: beyond at one place alone", Edge.watched("1 2 5000 3"), x -> x.derive(0));
        Edge.makesStale("40: derive makes stale", 0, Edge.lists("4 5", "3"), x -> x.derive(0));
        Edge.makesStale("40: derive makes stale, also with none", 0, Edge.lists("", "3"), x -> x.derive(0));
        Edge.leavesCursors("40: derive REFUSED leaves cursors", Edge.lists("0 0 5000"), x -> x.derive(0));
    }

    private static void afterRefused() {
        String[] texts = {"1 2 5000 1", "4 5 6", "7"};
        Edge.becomes("36: plus: one that was REFUSED part way leaves nothing to the next",
                Edge.lists(texts).andThen(x -> x.plus(0, 0)), x -> x.plus(1, 2), 3, "1 2 5000 1", "11 5 6", "7");
        Edge.becomes("37: times: one that was REFUSED part way leaves nothing to the next",
                Edge.lists(texts).andThen(x -> x.times(0, 0)), x -> x.times(1, 2), 3, "1 2 5000 1", "28 35 42", "7");
        Edge.becomes("40: derive: one that was REFUSED part way leaves nothing to the next",
                Edge.lists(texts).andThen(x -> x.derive(0)), x -> x.derive(1), 2, "1 2 5000 1", "5 12", "7");
        Edge.becomes("40: derive: one that was told leaves nothing to the next",
                Edge.lists(texts).andThen(x -> x.derive(1)), x -> x.derive(1), 1, "1 2 5000 1", "12", "7");
        Edge.tells("26: isMirror: one that was told leaves nothing to the next",
                Edge.lists(texts).andThen(x -> x.isMirror(0)), x -> x.isMirror(2), true);
    }

    private static void value() {
        Edge.places("41: value: list", 0, 3, Edge.watched("1", "3"), (x, list) -> x.value(list, 1));
        Edge.arguments("41: value: x", -99, 99, Edge.watched("1 2 3"), (x, at) -> x.value(0, at));
        Edge.arguments("41: value: x, with none", -99, 99, Edge.watched(""), (x, at) -> x.value(0, at));
        Edge.noPlace("41: value: the list goes ahead of x", Edge.watched("1"), x -> x.value(4, 100));
        Edge.tells("41: value: none", Edge.watched("", "3"), x -> x.value(0, 99), 0);
        Edge.tells("41: value: none at 0", Edge.watched("", "3"), x -> x.value(0, 0), 0);
        Edge.tells("41: value: at 0 the first one counts", Edge.watched("7 8 9"), x -> x.value(0, 0), 7);
        Edge.tells("41: value: at 1", Edge.watched("7 8 9"), x -> x.value(0, 1), 24);
        Edge.tells("41: value: at -1", Edge.watched("7 8 9"), x -> x.value(0, -1), 8);
        Edge.tells("41: value: 16 at 1", Edge.watched(Edge.SIXTEEN), x -> x.value(0, 1), 120);
        Edge.tells("41: value: 16 at -1", Edge.watched(Edge.SIXTEEN), x -> x.value(0, -1), 9973 - 8);
    }

    private static void valueRests() {
        Edge.tells("41: value: rest of 9972", Edge.watched("9972"), x -> x.value(0, 5), 9972);
        Edge.tells("41: value: rest of 9973", Edge.watched("9973"), x -> x.value(0, 5), 0);
        Edge.tells("41: value: rest of 9974", Edge.watched("9974"), x -> x.value(0, 5), 1);
        Edge.tells("41: value: rest of 9999", Edge.watched("9999"), x -> x.value(0, 0), 26);
        Edge.tells("41: value: rest of -1", Edge.watched("-1"), x -> x.value(0, 5), 9972);
        Edge.tells("41: value: rest of -9973", Edge.watched("-9973"), x -> x.value(0, 5), 0);
        Edge.tells("41: value: rest of -9974", Edge.watched("-9974"), x -> x.value(0, 5), 9972);
        Edge.tells("41: value: rest of -9999 at 0", Edge.watched("-9999"), x -> x.value(0, 0), 9947);
        Edge.tells("41: value: below 0 by x alone", Edge.watched("0 1"), x -> x.value(0, -99), 9874);
        for (int at : new int[] {-99, -98, 98, 99}) {
            Edge.tells("41: value: the largest 16 at " + at, Edge.watched(Edge.times(16, 9999)), x -> x.value(0, at),
                    exactRest(9999, at));
            Edge.tells("41: value: the least 16 at " + at, Edge.watched(Edge.times(16, -9999)), x -> x.value(0, at),
                    exactRest(-9999, at));
        }
    }

    private static int exactRest(int item, int at) {
        java.math.BigInteger sum = java.math.BigInteger.ZERO;
        for (int place = 0; place < 16; place++) {
            sum = sum.add(java.math.BigInteger.valueOf(at).pow(place).multiply(java.math.BigInteger.valueOf(item)));
        }
        return sum.mod(java.math.BigInteger.valueOf(9973)).intValueExact();
    }

    private static void degree() {
        Edge.places("42: degree: list", 0, 3, Edge.watched("1", "3"), (x, list) -> x.degree(list));
        Edge.tells("42: degree: none", Edge.watched("", "3"), x -> x.degree(0), -1);
        Edge.tells("42: degree: one 0", Edge.watched("0", "3"), x -> x.degree(0), -1);
        Edge.tells("42: degree: 16 that are 0", Edge.watched(Edge.times(16, 0)), x -> x.degree(0), -1);
        Edge.tells("42: degree: the first alone", Edge.watched("4 0 0"), x -> x.degree(0), 0);
        Edge.tells("42: degree: below 0", Edge.watched("0 -4 0"), x -> x.degree(0), 1);
        Edge.tells("42: degree: the last", Edge.watched("0 0 4"), x -> x.degree(0), 2);
        Edge.tells("42: degree: the last of 16", Edge.watched(Edge.SIXTEEN), x -> x.degree(0), 15);
        Edge.tells("42: degree: what went is not looked at", Edge.lists("4 5").andThen(x -> x.take(0, 1)),
                x -> x.degree(0), 0);
    }
}
