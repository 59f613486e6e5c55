/** Promises 36 to 42: polynomials. */
final class PolynomialsTest {

    private PolynomialsTest() {
    }

    public static void main(String[] args) {
        Check.test("promise 36: plus", PolynomialsTest::plus);
        Check.test("promise 37: times", PolynomialsTest::times);
        Check.test("promise 37: times, the edges", PolynomialsTest::timesEdges);
        Check.test("promise 38: shift", PolynomialsTest::shift);
        Check.test("promise 39: trim", PolynomialsTest::trim);
        Check.test("promise 40: derive", PolynomialsTest::derive);
        Check.test("promise 41: value", PolynomialsTest::value);
        Check.test("promise 42: degree", PolynomialsTest::degree);
        Check.end();
    }

    private static void plus() {
        Cursorlist x = Check.with(1, 2);
        Check.fill(x, 1, 10, -2, 30);
        Check.due(x.plus(0, 1), 3);
        Check.dueText(x, 0, "11 0 30");
        Check.dueText(x, 1, "10 -2 30");
        Check.due(x.plus(0, 2), 3);
        Check.due(x.plus(2, 0), 3);
        Check.dueText(x, 2, "11 0 30");
        Check.due(x.plus(2, 2), 3);
        Check.dueText(x, 2, "22 0 60");
        Check.due(x.plus(3, 3), 0);
        Check.dueMakesStale(x, 2, () -> x.plus(2, 3));
        Check.dueMakesStale(x, 3, () -> x.plus(3, 3));
        Check.fill(x, 0, 0, 9998, -9998);
        Check.fill(x, 1, 0, 1, -1);
        Check.due(x.plus(0, 1), 3);
        Check.dueText(x, 0, "0 9999 -9999");
        Check.dueRefused(x, () -> x.plus(0, 1));
        Check.fill(x, 1, 0, 0, -1);
        Check.dueRefused(x, () -> x.plus(0, 1));
        Check.dueRefused(x, () -> x.plus(0, 0));
        Check.dueLeavesCursors(x, () -> x.plus(0, 0));
        x.places(3, 16);
        Check.due(x.plus(3, 3), 16);
        Check.dueNoPlace(x, () -> x.plus(4, 0));
        Check.dueNoPlace(x, () -> x.plus(0, 4));
        Check.dueNoPlace(x, () -> x.plus(0, -1));
    }

    private static void times() {
        Cursorlist x = Check.with(1, 2);
        Check.fill(x, 1, 3, 0, -5);
        Check.due(x.times(0, 1), 4);
        Check.dueText(x, 0, "3 6 -5 -10");
        Check.dueText(x, 1, "3 0 -5");
        Check.due(x.times(1, 1), 5);
        Check.dueText(x, 1, "9 0 -30 0 25");
        Check.fill(x, 2, 0);
        Check.due(x.times(1, 2), 5);
        Check.dueText(x, 1, "0 0 0 0 0");
        Check.due(x.times(2, 2), 1);
        Check.due(x.times(0, 3), 0);
        Check.dueText(x, 0, "");
        Check.due(x.times(3, 1), 0);
        Check.dueMakesStale(x, 1, () -> x.times(1, 2));
        Check.dueMakesStale(x, 3, () -> x.times(3, 1));
    }

    private static void timesEdges() {
        Cursorlist x = Check.with(99, 0, 1);
        Check.fill(x, 1, 101);
        Check.due(x.times(0, 1), 3);
        Check.dueText(x, 0, "9999 0 101");
        Check.fill(x, 1, -1);
        Check.due(x.times(0, 1), 3);
        Check.fill(x, 1, 2);
        Check.dueRefused(x, () -> x.times(0, 1));
        Check.dueLeavesCursors(x, () -> x.times(0, 1));
        // What is too large on the way is no fault, if the sum is not.
        Check.fill(x, 0, 200, 200);
        Check.fill(x, 1, 40, -40);
        Check.due(x.times(0, 1), 3);
        Check.dueText(x, 0, "8000 0 -8000");
        Check.fill(x, 0, 9999, -9999);
        Check.fill(x, 1, 0, 1, 1);
        Check.due(x.times(0, 1), 4);
        Check.dueText(x, 0, "0 9999 0 -9999");
        // A sum of eight products at their largest: more are never summed.
        Check.fill(x, 2, 9999, 9999, 9999, 9999, 9999, 9999, 9999, 9999);
        Check.dueRefused(x, () -> x.times(2, 2));
        x.places(2, 9);
        x.places(3, 8);
        Check.due(x.times(2, 3), 16);
        x.places(2, 9);
        Check.dueRefused(x, () -> x.times(2, 2));
        x.places(2, 16);
        Check.dueRefused(x, () -> x.times(2, 2));
        Check.fill(x, 3, 0);
        Check.due(x.times(2, 3), 16);
        Check.dueNoPlace(x, () -> x.times(4, 0));
        Check.dueNoPlace(x, () -> x.times(0, 4));
        Check.dueNoPlace(x, () -> x.times(-1, 0));
    }

    private static void shift() {
        Cursorlist x = Check.with(1, 2);
        Check.due(x.shift(0), 3);
        Check.dueText(x, 0, "0 1 2");
        Check.due(x.shift(1), 0);
        Check.dueText(x, 1, "");
        Check.dueMakesStale(x, 0, () -> x.shift(0));
        Check.dueMakesStale(x, 1, () -> x.shift(1));
        Check.fill(x, 2, 7);
        Check.due(x.shift(2), 2);
        Check.dueText(x, 2, "0 7");
        x.places(2, 15);
        Check.due(x.shift(2), 16);
        Check.dueRefused(x, () -> x.shift(2));
        Check.dueLeavesCursors(x, () -> x.shift(2));
        Check.dueNoPlace(x, () -> x.shift(4));
        Check.dueNoPlace(x, () -> x.shift(-1));
    }

    private static void trim() {
        Cursorlist x = Check.with(0, 1, 0, 2, 0, 0);
        Check.due(x.trim(0), 2);
        Check.dueText(x, 0, "0 1 0 2");
        Check.due(x.trim(0), 0);
        Check.fill(x, 1, 0, 0, 0);
        Check.due(x.trim(1), 3);
        Check.dueText(x, 1, "");
        Check.due(x.trim(1), 0);
        Check.dueMakesStale(x, 0, () -> x.trim(0));
        Check.dueMakesStale(x, 1, () -> x.trim(1));
        Check.dueNoPlace(x, () -> x.trim(4));
        Check.dueNoPlace(x, () -> x.trim(-1));
    }

    private static void derive() {
        Cursorlist x = Check.with(5, 6, -7, 8);
        Check.due(x.derive(0), 3);
        Check.dueText(x, 0, "6 -14 24");
        Check.fill(x, 1, 7);
        Check.due(x.derive(1), 0);
        Check.dueText(x, 1, "");
        Check.due(x.derive(1), 0);
        Check.dueMakesStale(x, 0, () -> x.derive(0));
        Check.dueMakesStale(x, 1, () -> x.derive(1));
        Check.fill(x, 0, 9999, 9999, -4999, 3333);
        Check.due(x.derive(0), 3);
        Check.dueText(x, 0, "9999 -9998 9999");
        Check.fill(x, 0, 0, 0, 5000);
        Check.dueRefused(x, () -> x.derive(0));
        Check.fill(x, 0, 0, 0, -5000);
        Check.dueRefused(x, () -> x.derive(0));
        Check.dueLeavesCursors(x, () -> x.derive(0));
        x.places(2, 16);
        Check.due(x.derive(2), 15);
        Check.dueNoPlace(x, () -> x.derive(4));
        Check.dueNoPlace(x, () -> x.derive(-1));
    }

    private static void value() {
        Cursorlist x = Check.with(1, 2, 3);
        Check.due(x.value(0, 0), 1);
        Check.due(x.value(0, 1), 6);
        Check.due(x.value(0, 10), 321);
        Check.due(x.value(0, -1), 2);
        Check.due(x.value(0, 99), 9656);
        Check.due(x.value(0, -99), 9260);
        Check.fill(x, 1, -1);
        Check.due(x.value(1, 5), 9972);
        Check.fill(x, 1, -9973);
        Check.due(x.value(1, 5), 0);
        Check.fill(x, 1, 9973);
        Check.due(x.value(1, 0), 0);
        Check.due(x.value(2, 7), 0);
        Check.fill(x, 3, 0, 0, 0, 0, 0, 0, 0, 0, 0, 0, 0, 0, 0, 0, 0, 9999);
        Check.due(x.value(3, 99), 26 * powerOf99() % 9973);
        Check.dueLeavesCursors(x, () -> x.value(0, 5));
        Check.dueNoPlace(x, () -> x.value(4, 100));
        Check.dueNoPlace(x, () -> x.value(-1, 0));
        Check.dueBadArgument(x, () -> x.value(0, 100));
        Check.dueBadArgument(x, () -> x.value(2, -100));
    }

    private static long powerOf99() {
        long power = 1;
        for (int step = 0; step < 15; step++) {
            power = power * 99 % 9973;
        }
        return power;
    }

    private static void degree() {
        Cursorlist x = Check.with(5, 0, -6, 0, 0);
        Check.due(x.degree(0), 2);
        Check.fill(x, 0, 5, 0);
        Check.due(x.degree(0), 0);
        Check.fill(x, 0, 0, 0);
        Check.due(x.degree(0), Check.NONE);
        Check.due(x.degree(1), Check.NONE);
        x.places(2, 16);
        Check.due(x.degree(2), 15);
        Check.dueLeavesCursors(x, () -> x.degree(2));
        Check.dueNoPlace(x, () -> x.degree(4));
        Check.dueNoPlace(x, () -> x.degree(-1));
    }
}
