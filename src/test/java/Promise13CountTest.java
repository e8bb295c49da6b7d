/** Promise 13: count. */
public final class Promise13CountTest {
    public static void main(String[] args) {
        holdsAndThoseLeft();
        greatestDepth();
        tillsThatAreThere();
        badNumbers();
        Check.done();
    }

    private static void counts(TillHolds x, String when, int begun, int left, int deepest) {
        Check.due("count(0) " + when, x.count(0), begun);
        Check.due("count(1) " + when, x.count(1), left);
        Check.due("count(2) " + when, x.count(2), deepest);
    }

    private static void holdsAndThoseLeft() {
        TillHolds x = new TillHolds();
        x.till(0, 5);
        x.till(1, 5);
        counts(x, "after till", 0, 0, 0);
        x.put(0, 0, 5);
        counts(x, "after put", 1, 0, 1);
        x.put(0, 0, 1);
        counts(x, "after a put that failed", 2, 1, 1);
        x.take(0, 6);
        counts(x, "after a take that failed", 3, 2, 1);
        x.move(0, 1, 1, false);
        counts(x, "after move", 5, 2, 2);
        x.move(0, 7, 1, true);
        counts(x, "after a move to a missing one", 6, 3, 2);
        x.share(0, 1, 0);
        counts(x, "after share", 8, 3, 2);
        x.pass(1017, 1, true);
        counts(x, "after a pass to a missing one", 11, 6, 3);
        x.pass(7, 1, true);
        x.look(7, 0);
        counts(x, "after calls on a missing one", 11, 6, 3);
        x.hand(0);
        x.drop(1);
        counts(x, "after hand and drop", 11, 6, 3);
    }

    private static void greatestDepth() {
        TillHolds x = new TillHolds();
        x.till(2, 5);
        x.look(2, 0);
        x.look(2, 0);
        counts(x, "after two looks", 2, 0, 1);
        x.pass(222, 0, false);
        counts(x, "after a row of three", 5, 0, 3);
        x.pass(22, 0, false);
        counts(x, "after a row of two", 7, 0, 3);
        x.pass(22223, 0, false);
        counts(x, "after a row of five that failed", 11, 4, 4);
        x.pass(222222, 0, false);
        counts(x, "after a row of six", 17, 4, 6);
        x.look(2, 0);
        counts(x, "after one more look", 18, 4, 6);
    }

    private static void tillsThatAreThere() {
        TillHolds x = new TillHolds();
        for (int t = 0; t < 8; t++) {
            x.till(t, t);
            Check.due("count(3)", x.count(3), t + 1);
        }
        x.till(0, 9);
        x.shut(3, true);
        Check.due("count(3)", x.count(3), 8);
        x.drop(0);
        x.drop(7);
        x.drop(7);
        Check.due("count(3)", x.count(3), 6);
    }

    private static void badNumbers() {
        TillHolds x = new TillHolds();
        int[] whats = {-1, 4, Integer.MIN_VALUE, Integer.MAX_VALUE};
        for (int what : whats) {
            Check.due("count(" + what + ")", x.count(what), TillHolds.BAD);
        }
    }
}
