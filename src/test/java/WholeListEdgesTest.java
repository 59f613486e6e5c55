/** Promises 18 to 26, lists taken as a whole: each boundary case that a sentence names, in a test of its own. */
final class WholeListEdgesTest {

    private WholeListEdgesTest() {
    }

    public static void main(String[] args) {
        copy();
        places();
        rotate();
        rotateRound();
        move();
        swap();
        reverse();
        through();
        throughRefused();
        areSame();
        isMirror();
        Check.end();
    }

    private static void copy() {
        Edge.places("18: copy: list", 0, 3, Edge.watched("1", "3"), (x, list) -> x.copy(list, 0));
        Edge.places("18: copy: into", 0, 3, Edge.watched("1", "3"), (x, into) -> x.copy(0, into));
        Edge.becomes("18: copy: none into some", Edge.lists("", "4 5"), x -> x.copy(0, 1), 0, "", "");
        Edge.becomes("18: copy: some into none", Edge.lists("4 5", ""), x -> x.copy(0, 1), 2, "4 5", "4 5");
        Edge.becomes("18: copy: into a longer one", Edge.lists("4 5", "6 7 8"), x -> x.copy(0, 1), 2, "4 5", "4 5");
        Edge.becomes("18: copy: into a shorter one", Edge.lists("4 5", "6"), x -> x.copy(0, 1), 2, "4 5", "4 5");
        Edge.becomes("18: copy: into itself", Edge.lists("4 5", "6"), x -> x.copy(0, 0), 2, "4 5", "6");
        Edge.becomes("18: copy: none into itself", Edge.lists("", "6"), x -> x.copy(0, 0), 0, "", "6");
        Edge.becomes("18: copy: 16 into 16", Edge.lists(Edge.SIXTEEN, Edge.times(16, 5)), x -> x.copy(0, 1), 16,
                Edge.SIXTEEN, Edge.SIXTEEN);
        Edge.becomes("18: copy: the two go their own ways", Edge.lists("4 5"), x -> x.copy(0, 1) + x.put(1, 0, 9), 5,
                "4 5", "9 4 5");
        Edge.makesStale("18: copy makes stale over into alone", 1, Edge.lists("4 5", "6"), x -> x.copy(0, 1));
        Edge.makesStale("18: copy makes stale, also if it changes nothing", 1, Edge.lists("", ""), x -> x.copy(0, 1));
        Edge.makesStale("18: copy into itself makes stale", 0, Edge.lists("4 5", "6"), x -> x.copy(0, 0));
    }

    private static void places() {
        Edge.places("19: places: list", 0, 3, Edge.watched("1", "3"), (x, list) -> x.places(list, 2));
        Edge.arguments("19: places: many", 0, 16, Edge.watched("1", "3"), (x, many) -> x.places(0, many));
        Edge.noPlace("19: places: the list goes ahead of many", Edge.watched("1"), x -> x.places(4, 17));
        Edge.noPlace("19: places: the list -1 goes ahead of many", Edge.watched("1"), x -> x.places(-1, -1));
        Edge.becomes("19: places: 0", Edge.lists("4 5", "3"), x -> x.places(0, 0), 0, "", "3");
        Edge.becomes("19: places: 1", Edge.lists("4 5", "3"), x -> x.places(0, 1), 1, "0", "3");
        Edge.becomes("19: places: 16", Edge.lists("4 5", "3"), x -> x.places(0, 16), 16, Edge.SIXTEEN, "3");
        Edge.becomes("19: places: 15 of 16", Edge.lists(Edge.times(16, 5)), x -> x.places(0, 15), 15, Edge.FIFTEEN);
        Edge.makesStale("19: places makes stale", 0, Edge.lists("4 5", "3"), x -> x.places(0, 3));
        Edge.makesStale("19: places makes stale, also if it changes nothing", 0, Edge.lists("0 1", "3"),
                x -> x.places(0, 2));
        Edge.makesStale("19: places makes stale, also none to none", 0, Edge.lists("", "3"), x -> x.places(0, 0));
    }

    private static void rotate() {
        Edge.places("20: rotate: list", 0, 3, Edge.watched("1 2", "3"), (x, list) -> x.rotate(list, 1));
        Edge.arguments("20: rotate: by", -99, 99, Edge.watched("1 2", "3"), (x, by) -> x.rotate(0, by));
        Edge.noPlace("20: rotate: the list goes ahead of by", Edge.watched("1"), x -> x.rotate(4, 100));
        Edge.badArgument("20: rotate: by goes ahead of NOTHING", Edge.watched(""), x -> x.rotate(0, -100));
        Edge.becomes("20: rotate: by 0", Edge.lists("4 5 6", "3"), x -> x.rotate(0, 0), 4, "4 5 6", "3");
        Edge.becomes("20: rotate: by 1, from the end to the beginning", Edge.lists("4 5 6", "3"),
                x -> x.rotate(0, 1), 6, "6 4 5", "3");
        Edge.becomes("20: rotate: by -1, from the beginning to the end", Edge.lists("4 5 6", "3"),
                x -> x.rotate(0, -1), 5, "5 6 4", "3");
        Edge.makesStale("20: rotate makes stale", 0, Edge.lists("4 5", "3"), x -> x.rotate(0, 1));
        Edge.makesStale("20: rotate makes stale, also by 0", 0, Edge.lists("4 5", "3"), x -> x.rotate(0, 0));
        Edge.makesStale("20: rotate makes stale, also quite round", 0, Edge.lists("4 5", "3"), x -> x.rotate(0, 2));
        Edge.makesStale("20: rotate makes stale, also with none", 0, Edge.lists("", "3"), x -> x.rotate(0, 5));
    }

    private static void rotateRound() {
        String turned = "15 0 1 2 3 4 5 6 7 8 9 10 11 12 13 14";
        Edge.becomes("20: rotate: as many as there are", Edge.lists("4 5 6"), x -> x.rotate(0, 3), 4, "4 5 6");
        Edge.becomes("20: rotate: as many as there are, backward", Edge.lists("4 5 6"), x -> x.rotate(0, -3), 4,
                "4 5 6");
        Edge.becomes("20: rotate: one more than there are", Edge.lists("4 5 6"), x -> x.rotate(0, 4), 6, "6 4 5");
        Edge.becomes("20: rotate: one more, backward", Edge.lists("4 5 6"), x -> x.rotate(0, -4), 5, "5 6 4");
        Edge.becomes("20: rotate: by 99", Edge.lists("4 5 6 7"), x -> x.rotate(0, 99), 5, "5 6 7 4");
        Edge.becomes("20: rotate: by -99", Edge.lists("4 5 6 7"), x -> x.rotate(0, -99), 7, "7 4 5 6");
        Edge.becomes("20: rotate: one item", Edge.lists("4"), x -> x.rotate(0, 99), 4, "4");
        Edge.becomes("20: rotate: one item, backward", Edge.lists("4"), x -> x.rotate(0, -99), 4, "4");
        Edge.becomes("20: rotate: none", Edge.lists("", "3"), x -> x.rotate(0, 1), 10000, "", "3");
        Edge.becomes("20: rotate: none, backward", Edge.lists("", "3"), x -> x.rotate(0, -99), 10000, "", "3");
        Edge.becomes("20: rotate: none, by 0", Edge.lists("", "3"), x -> x.rotate(0, 0), 10000, "", "3");
        Edge.becomes("20: rotate: 16", Edge.lists(Edge.SIXTEEN), x -> x.rotate(0, 1), 15, turned);
        Edge.becomes("20: rotate: 16 by 97", Edge.lists(Edge.SIXTEEN), x -> x.rotate(0, 97), 15, turned);
        Edge.becomes("20: rotate: 16 by -95", Edge.lists(Edge.SIXTEEN), x -> x.rotate(0, -95), 15, turned);
    }

    private static void move() {
        Edge.places("21: move: list", 0, 3, Edge.watched("1", "3", "4", "5"), (x, list) -> x.move(list, 0, 0));
        Edge.places("21: move: from", 0, 2, Edge.watched("4 5 6", "3"), (x, from) -> x.move(0, from, 1));
        Edge.places("21: move: to", 0, 2, Edge.watched("4 5 6", "3"), (x, to) -> x.move(0, 1, to));
        Edge.noPlace("21: move: of none", Edge.watched("", "3"), x -> x.move(0, 0, 0));
        Edge.noPlace("21: move: to 16 of 16", Edge.watched(Edge.SIXTEEN), x -> x.move(0, 0, 16));
        Edge.becomes("21: move: the first to the last place", Edge.lists("4 5 6 7", "3"), x -> x.move(0, 0, 3), 4,
                "5 6 7 4", "3");
        Edge.becomes("21: move: the last to the first place", Edge.lists("4 5 6 7", "3"), x -> x.move(0, 3, 0), 7,
                "7 4 5 6", "3");
        Edge.becomes("21: move: one place on", Edge.lists("4 5 6 7"), x -> x.move(0, 1, 2), 5, "4 6 5 7");
        Edge.becomes("21: move: one place back", Edge.lists("4 5 6 7"), x -> x.move(0, 2, 1), 6, "4 6 5 7");
        Edge.becomes("21: move: two places on", Edge.lists("4 5 6 7"), x -> x.move(0, 0, 2), 4, "5 6 4 7");
        Edge.becomes("21: move: to where it stands", Edge.lists("4 5 6"), x -> x.move(0, 1, 1), 5, "4 5 6");
        Edge.becomes("21: move: the last to where it stands", Edge.lists("4 5 6"), x -> x.move(0, 2, 2), 6, "4 5 6");
        Edge.becomes("21: move: the only one", Edge.lists("4", "3"), x -> x.move(0, 0, 0), 4, "4", "3");
        Edge.becomes("21: move: in 16", Edge.lists(Edge.SIXTEEN), x -> x.move(0, 15, 0), 15, "15 " + Edge.FIFTEEN);
        Edge.becomes("21: move: in 16, on", Edge.lists("9 " + Edge.FIFTEEN),
                x -> x.move(0, 0, 15), 9, Edge.FIFTEEN + " 9");
        Edge.makesStale("21: move makes stale", 0, Edge.lists("4 5", "3"), x -> x.move(0, 0, 1));
        Edge.makesStale("21: move makes stale, also to where it stands", 0, Edge.lists("4 5", "3"),
                x -> x.move(0, 1, 1));
    }

    private static void swap() {
        Edge.places("22: swap: list", 0, 3, Edge.watched("1", "3", "4", "5"), (x, list) -> x.swap(list, 0, 0));
        Edge.places("22: swap: one", 0, 2, Edge.watched("4 5 6", "3"), (x, one) -> x.swap(0, one, 1));
        Edge.places("22: swap: other", 0, 2, Edge.watched("4 5 6", "3"), (x, other) -> x.swap(0, 1, other));
        Edge.noPlace("22: swap: of none", Edge.watched("", "3"), x -> x.swap(0, 0, 0));
        Edge.becomes("22: swap: the first and the last", Edge.lists("4 5 6", "3"), x -> x.swap(0, 0, 2), 6, "6 5 4",
                "3");
        Edge.becomes("22: swap: the last and the first", Edge.lists("4 5 6", "3"), x -> x.swap(0, 2, 0), 4, "6 5 4",
                "3");
        Edge.becomes("22: swap: neighbours", Edge.lists("4 5 6"), x -> x.swap(0, 1, 2), 6, "4 6 5");
        Edge.becomes("22: swap: one with itself", Edge.lists("4 5 6"), x -> x.swap(0, 1, 1), 5, "4 5 6");
        Edge.becomes("22: swap: the only one", Edge.lists("4"), x -> x.swap(0, 0, 0), 4, "4");
        Edge.becomes("22: swap: in 16", Edge.lists(Edge.SIXTEEN), x -> x.swap(0, 0, 15), 15,
                "15 1 2 3 4 5 6 7 8 9 10 11 12 13 14 0");
        Edge.leavesCursors("22: swap leaves cursors", Edge.lists("4 5 6", "3"), x -> x.swap(0, 0, 2));
        Edge.becomes("22: swap: LAST is what stands there since", Edge.lists("4 5 6"), x -> {
            x.open(0, 0, 0);
            x.forth(0);
            x.swap(0, 0, 2);
            return x.changes(0, 9);
        }, 1, "9 5 4");
    }

    private static void reverse() {
        Edge.places("23: reverse: list", 0, 3, Edge.watched("1", "3"), (x, list) -> x.reverse(list));
        Edge.becomes("23: reverse: none", Edge.lists("", "3"), x -> x.reverse(0), 10000, "", "3");
        Edge.becomes("23: reverse: one", Edge.lists("4", "3"), x -> x.reverse(0), 4, "4", "3");
        Edge.becomes("23: reverse: two", Edge.lists("4 5", "3"), x -> x.reverse(0), 5, "5 4", "3");
        Edge.becomes("23: reverse: three", Edge.lists("4 5 6", "3"), x -> x.reverse(0), 6, "6 5 4", "3");
        Edge.becomes("23: reverse: 16", Edge.lists(Edge.SIXTEEN), x -> x.reverse(0), 15,
                "15 14 13 12 11 10 9 8 7 6 5 4 3 2 1 0");
        Edge.leavesCursors("23: reverse leaves cursors", Edge.lists("4 5 6", "3"), x -> x.reverse(0));
        Edge.becomes("23: reverse: a cursor comes to what is there then", Edge.lists("4 5 6"), x -> {
            x.open(0, 0, 1);
            x.reverse(0);
            return x.back(0) + " " + x.forth(0) + " " + x.forth(0);
        }, "6 6 5", "6 5 4");
    }

    private static void through() {
        Edge.places("24: through: list", 0, 3, Edge.watched("1 2", ""), (x, list) -> x.through(list, 1, 2));
        Edge.places("24: through: map", 0, 3, Edge.watched("0", "0"), (x, map) -> x.through(0, map, 2));
        Edge.places("24: through: into", 0, 3, Edge.watched("0", "0"), (x, into) -> x.through(0, 1, into));
        Edge.becomes("24: through: no map", Edge.lists("4 5", "", "7 8"), x -> x.through(0, 1, 2), 0, "4 5");
        Edge.becomes("24: through: no map, no list", Edge.lists("", "", "7 8"), x -> x.through(0, 1, 2), 0);
        Edge.becomes("24: through: the first and the last place", Edge.lists("4 5 6", "0 2"),
                x -> x.through(0, 1, 2), 2, "4 5 6", "0 2", "4 6");
        Edge.becomes("24: through: a place more than once", Edge.lists("4 5", "1 1 0 1"), x -> x.through(0, 1, 2), 4,
                "4 5", "1 1 0 1", "5 5 4 5");
        Edge.becomes("24: through: into the list, as it was ahead", Edge.lists("4 5 6", "2 0 0"),
                x -> x.through(0, 1, 0), 3, "6 4 4", "2 0 0");
        Edge.becomes("24: through: into the map, as it was ahead", Edge.lists("4 5 6", "2 0 1"),
                x -> x.through(0, 1, 1), 3, "4 5 6", "6 4 5");
        Edge.becomes("24: through: by itself", Edge.lists("2 0 1"), x -> x.through(0, 0, 1), 3, "2 0 1", "1 2 0");
        Edge.becomes("24: through: by itself into itself", Edge.lists("2 0 1"), x -> x.through(0, 0, 0), 3, "1 2 0");
        Edge.becomes("24: through: 16 by 16", Edge.lists(Edge.SIXTEEN, Edge.times(16, 15), "7"),
                x -> x.through(0, 1, 2), 16, Edge.SIXTEEN, Edge.times(16, 15), Edge.times(16, 15));
        Edge.makesStale("24: through makes stale over into alone", 2, Edge.lists("4 5", "1"), x -> x.through(0, 1, 2));
        Edge.makesStale("24: through makes stale, also if it changes nothing", 2, Edge.lists("4", "", ""),
                x -> x.through(0, 1, 2));
        Edge.makesStale("24: through into the list makes stale", 0, Edge.lists("4 5", "0 1"), x -> x.through(0, 1, 0));
        Edge.makesStale("24: through into the map makes stale", 1, Edge.lists("4 5", "0 1"), x -> x.through(0, 1, 1));
    }

    private static void throughRefused() {
        Edge.refuses("24: through: -1 is no place", Edge.watched("4 5", "0 -1", "7"), x -> x.through(0, 1, 2));
        Edge.refuses("24: through: as many as there are is no place", Edge.watched("4 5", "2 0", "7"),
                x -> x.through(0, 1, 2));
        Edge.refuses("24: through: the most item is no place", Edge.watched("4 5", "9999"), x -> x.through(0, 1, 2));
        Edge.refuses("24: through: the least item is no place", Edge.watched("4 5", "-9999"), x -> x.through(0, 1, 2));
        Edge.refuses("24: through: 0 is no place of none", Edge.watched("", "0", "7"), x -> x.through(0, 1, 2));
        Edge.refuses("24: through: 16 is no place of 16", Edge.watched(Edge.SIXTEEN, "15 16"), x -> x.through(0, 1, 2));
        Edge.refuses("24: through: the last of the map is none", Edge.watched("4 5", "0 1 0 2"),
                x -> x.through(0, 1, 0));
        Edge.refuses("24: through: a place of the map alone", Edge.watched("4", "0 1"), x -> x.through(0, 1, 1));
        Edge.becomes("24: through: one that was REFUSED part way leaves nothing to the next",
                Edge.lists("4 5 6", "0 1 9", "2").andThen(x -> x.through(0, 1, 3)), x -> x.through(0, 2, 3), 1,
                "4 5 6", "0 1 9", "2", "6");
        Edge.becomes("24: through: one that was told leaves nothing to the next",
                Edge.lists("4 5 6", "0 1", "2").andThen(x -> x.through(0, 1, 3)), x -> x.through(0, 2, 3), 1,
                "4 5 6", "0 1", "2", "6");
        Edge.noPlace("24: through: into goes ahead of REFUSED", Edge.watched("4", "1"), x -> x.through(0, 1, 4));
        Edge.noPlace("24: through: into -1 goes ahead of REFUSED", Edge.watched("4", "1"), x -> x.through(0, 1, -1));
        Edge.leavesCursors("24: through REFUSED leaves cursors", Edge.lists("4 5", "2"), x -> x.through(0, 1, 2));
    }

    private static void areSame() {
        Edge.places("25: areSame: list", 0, 3, Edge.watched("1", "3"), (x, list) -> x.areSame(list, 0));
        Edge.places("25: areSame: other", 0, 3, Edge.watched("1", "3"), (x, other) -> x.areSame(0, other));
        Edge.tells("25: areSame: none and none", Edge.watched("", ""), x -> x.areSame(0, 1), true);
        Edge.tells("25: areSame: none and one", Edge.watched("", "0"), x -> x.areSame(0, 1), false);
        Edge.tells("25: areSame: one and none", Edge.watched("0", ""), x -> x.areSame(0, 1), false);
        Edge.tells("25: areSame: itself", Edge.watched("4 5"), x -> x.areSame(0, 0), true);
        Edge.tells("25: areSame: alike", Edge.watched("4 5", "4 5"), x -> x.areSame(0, 1), true);
        Edge.tells("25: areSame: one more behind", Edge.watched("4 5", "4 5 0"), x -> x.areSame(0, 1), false);
        Edge.tells("25: areSame: one less", Edge.watched("4 5 0", "4 5"), x -> x.areSame(0, 1), false);
        Edge.tells("25: areSame: another first", Edge.watched("3 5", "4 5"), x -> x.areSame(0, 1), false);
        Edge.tells("25: areSame: another last", Edge.watched("4 5", "4 6"), x -> x.areSame(0, 1), false);
        Edge.tells("25: areSame: at other places", Edge.watched("4 5", "5 4"), x -> x.areSame(0, 1), false);
        Edge.tells("25: areSame: 16 alike", Edge.watched(Edge.SIXTEEN, Edge.SIXTEEN), x -> x.areSame(0, 1), true);
        Edge.tells("25: areSame: 16, another last", Edge.watched(Edge.SIXTEEN, Edge.FIFTEEN + " 16"),
                x -> x.areSame(0, 1), false);
        Edge.tells("25: areSame: what went is not looked at", Edge.lists("4 5", "4 6").andThen(x -> {
            x.take(0, 1);
            x.take(1, 1);
        }), x -> x.areSame(0, 1), true);
    }

    private static void isMirror() {
        Edge.places("26: isMirror: list", 0, 3, Edge.watched("1", "3"), (x, list) -> x.isMirror(list));
        Edge.tells("26: isMirror: none", Edge.watched("", "3"), x -> x.isMirror(0), true);
        Edge.tells("26: isMirror: one", Edge.watched("4"), x -> x.isMirror(0), true);
        Edge.tells("26: isMirror: two alike", Edge.watched("4 4"), x -> x.isMirror(0), true);
        Edge.tells("26: isMirror: two apart", Edge.watched("4 -4"), x -> x.isMirror(0), false);
        Edge.tells("26: isMirror: three", Edge.watched("4 5 4"), x -> x.isMirror(0), true);
        Edge.tells("26: isMirror: the middle two apart", Edge.watched("4 5 6 4"), x -> x.isMirror(0), false);
        Edge.tells("26: isMirror: the outer two apart", Edge.watched("4 5 5 6"), x -> x.isMirror(0), false);
        Edge.tells("26: isMirror: 16", Edge.watched("0 1 2 3 4 5 6 7 7 6 5 4 3 2 1 0"), x -> x.isMirror(0), true);
        Edge.tells("26: isMirror: 16, not", Edge.watched("0 1 2 3 4 5 6 7 8 6 5 4 3 2 1 0"), x -> x.isMirror(0), false);
    }
}
