/** Promise 6: take, and how a till pays. */
public final class Promise06TakeTest {
    public static void main(String[] args) {
        greatestKindsFirst();
        noOtherWayIsTried();
        failures();
        badNumbers();
        Check.done();
    }

    private static void greatestKindsFirst() {
        TillHolds x = new TillHolds();
        x.till(0, 200);
        for (int kind = 0; kind <= 4; kind++) {
            x.put(0, kind, 3);
        }
        Check.due("take(0, 0)", x.take(0, 0), 0);
        Check.due("take(0, 38)", x.take(0, 38), 5);
        int[] taken = {1, 1, 1, 1, 1};
        for (int kind = 0; kind <= 4; kind++) {
            Check.due("hand(" + kind + ")", x.hand(kind), taken[kind]);
            Check.due("look(0, " + kind + ")", x.look(0, kind), 3 - taken[kind]);
        }
        Check.due("take(0, 61): more than the great ones are worth", x.take(0, 61), 5);
        Check.due("hand(6)", x.hand(6), 99);
        Check.due("look(0, 6)", x.look(0, 6), 15);
        Check.due("take(0, 15): all that is left", x.take(0, 15), 5);
        Check.due("look(0, 5)", x.look(0, 5), 0);
    }

    private static void noOtherWayIsTried() {
        TillHolds x = new TillHolds();
        x.till(0, 200);
        x.put(0, 1, 3);
        x.put(0, 2, 1);
        Check.due("take(0, 6): the 5 first, then 1 is left", x.take(0, 6), -13);
        Check.due("look(0, 6): none go", x.look(0, 6), 11);
        Check.due("hand(5)", x.hand(5), 0);
    }

    private static void failures() {
        TillHolds x = new TillHolds();
        Check.due("take(5, 0) of a missing one", x.take(5, 0), -11);
        Check.due("count(0)", x.count(0), 0);
        x.till(5, 200);
        x.put(5, 4, 200);
        Check.due("take(5, 10000)", x.take(5, 10000), -13);
        Check.due("take(5, 4001)", x.take(5, 4001), -13);
        Check.due("take(5, 19)", x.take(5, 19), -13);
        x.shut(5, true);
        Check.due("take(5, 20) of a shut one", x.take(5, 20), -12);
        Check.due("take(5, 0): nothing of a shut one", x.take(5, 0), -12);
        Check.due("take(5, 1): shut goes before short", x.take(5, 1), -12);
        Check.due("count(1)", x.count(1), 6);
        x.shut(5, false);
        Check.due("take(5, 4000)", x.take(5, 4000), 200);
        Check.due("count(1)", x.count(1), 6);
    }

    private static void badNumbers() {
        TillHolds x = new TillHolds();
        x.till(5, 10);
        Check.due("take(-1, 0)", x.take(-1, 0), TillHolds.BAD);
        Check.due("take(8, 0)", x.take(8, 0), TillHolds.BAD);
        Check.due("take(5, -1)", x.take(5, -1), TillHolds.BAD);
        Check.due("take(5, 10001)", x.take(5, 10001), TillHolds.BAD);
        Check.due("take(0, 10001): bad goes before missing", x.take(0, 10001), TillHolds.BAD);
        Check.due("count(0)", x.count(0), 0);
    }
}
