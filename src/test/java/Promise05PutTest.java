/** Promise 5: put. */
public final class Promise05PutTest {
    public static void main(String[] args) {
        coinsAreLaid();
        theyAloneAreLaid();
        failures();
        badNumbers();
        Check.done();
    }

    private static void coinsAreLaid() {
        TillHolds x = new TillHolds();
        x.till(0, 200);
        Check.due("put(0, 4, 0)", x.put(0, 4, 0), 0);
        for (int kind = 0; kind <= 4; kind++) {
            Check.due("put(0, " + kind + ", 10)", x.put(0, kind, 10), 10 * (kind + 1));
            Check.due("look(0, " + kind + ")", x.look(0, kind), 10);
        }
        Check.due("look(0, 6)", x.look(0, 6), 380);
        Check.due("put(0, 2, 150): up to the limit", x.put(0, 2, 150), 200);
        Check.due("put(0, 2, 0): none are not too many", x.put(0, 2, 0), 200);
        Check.due("hand(5)", x.hand(5), 0);
        x.till(1, 200);
        Check.due("put(1, 0, 200)", x.put(1, 0, 200), 200);
    }

    private static void theyAloneAreLaid() {
        TillHolds x = new TillHolds();
        x.till(0, 3);
        x.put(0, 0, 4);
        Check.due("hand(0): too many stay in the hand", x.hand(0), 4);
        Check.due("put(0, 0, 2)", x.put(0, 0, 2), 2);
        Check.due("hand(0)", x.hand(0), 4);
        Check.due("look(0, 0)", x.look(0, 0), 2);
        x.till(1, 200);
        for (int kind = 0; kind <= 4; kind++) {
            x.put(1, kind, 1);
        }
        x.take(1, 38);
        Check.due("put(0, 1, 1): none of those that were taken", x.put(0, 1, 1), 3);
        Check.due("look(0, 6)", x.look(0, 6), 4);
        Check.due("hand(6)", x.hand(6), 42);
    }

    private static void failures() {
        TillHolds x = new TillHolds();
        Check.due("put(2, 1, 5) into a missing one", x.put(2, 1, 5), -11);
        Check.due("hand(5): it was not held, so none came", x.hand(5), 0);
        Check.due("count(0)", x.count(0), 0);
        x.till(2, 6);
        x.put(2, 1, 5);
        Check.due("put(2, 1, 2) over the limit", x.put(2, 1, 2), -14);
        Check.due("hand(1)", x.hand(1), 2);
        x.shut(2, true);
        Check.due("put(2, 3, 1) into a shut one", x.put(2, 3, 1), -12);
        Check.due("put(2, 3, 9): shut goes before too much", x.put(2, 3, 9), -12);
        Check.due("put(2, 3, 0): none into a shut one", x.put(2, 3, 0), -12);
        Check.due("hand(3)", x.hand(3), 10);
        Check.due("look(2, 5)", x.look(2, 5), 5);
        Check.due("count(1)", x.count(1), 4);
    }

    private static void badNumbers() {
        TillHolds x = new TillHolds();
        x.till(2, 200);
        Check.due("put(-1, 0, 1)", x.put(-1, 0, 1), TillHolds.BAD);
        Check.due("put(8, 0, 1)", x.put(8, 0, 1), TillHolds.BAD);
        Check.due("put(2, -1, 1)", x.put(2, -1, 1), TillHolds.BAD);
        Check.due("put(2, 5, 1)", x.put(2, 5, 1), TillHolds.BAD);
        Check.due("put(2, 0, -1)", x.put(2, 0, -1), TillHolds.BAD);
        Check.due("put(2, 0, 201)", x.put(2, 0, 201), TillHolds.BAD);
        Check.due("put(3, 0, 201): bad goes before missing", x.put(3, 0, 201), TillHolds.BAD);
        Check.due("hand(5)", x.hand(5), 0);
        Check.due("count(0)", x.count(0), 0);
    }
}
