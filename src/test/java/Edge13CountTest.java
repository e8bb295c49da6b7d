/** The edges of promise 13: count. */
public final class Edge13CountTest {
    public static void main(String[] args) {
        nothingToCount();
        holdsThatWereBegunAndLeft();
        theGreatestDepthSoFar();
        tillsThatAreThere();
        countingChangesNothing();
        badNumbers();
        Check.done();
    }

    private static void counts(TillHolds x, int... due) {
        for (int what = 0; what <= 3; what++) {
            Check.due("count(" + what + ")", x.count(what), due[what]);
        }
    }

    // Promise 13: "0 HOLDS that were begun, 1 those that were LEFT, 2 the greatest DEPTH so far, 3 TILLS that are there."
    private static void nothingToCount() {
        TillHolds x = new TillHolds();
        counts(x, 0, 0, 0, 0);
        x.look(0, 0);
        x.pass(123456, 0, true);
        x.first(0);
        x.hand(5);
        counts(x, 0, 0, 0, 0);
    }

    // Promise 13: "0 HOLDS that were begun, 1 those that were LEFT, 2 the greatest DEPTH so far, 3 TILLS that are there."
    private static void holdsThatWereBegunAndLeft() {
        TillHolds x = new TillHolds();
        x.till(0, 1);
        counts(x, 0, 0, 0, 1);
        x.put(0, 0, 1);
        counts(x, 1, 0, 1, 1);
        x.put(0, 0, 1);
        counts(x, 2, 1, 1, 1);
        x.move(0, 1, 1, true);
        counts(x, 3, 2, 1, 1);
        x.share(0, 0, 0);
        counts(x, 5, 2, 2, 1);
        x.pass(1, 0, true);
        counts(x, 5, 2, 2, 1);
        x.shut(0, true);
        x.pass(0, 0, true);
        counts(x, 7, 3, 2, 1);
    }

    // Promise 13: "0 HOLDS that were begun, 1 those that were LEFT, 2 the greatest DEPTH so far, 3 TILLS that are there."
    private static void theGreatestDepthSoFar() {
        TillHolds x = new TillHolds();
        x.till(0, 1);
        x.till(1, 1);
        x.pass(1010, 0, true);
        counts(x, 4, 0, 4, 2);
        x.pass(10, 0, true);
        counts(x, 6, 0, 4, 2);
        x.pass(10102, 0, true);
        counts(x, 10, 4, 4, 2);
        x.pass(101010, 0, true);
        counts(x, 16, 4, 6, 2);
        x.take(0, 1);
        counts(x, 17, 5, 6, 2);
        x.drop(0);
        x.drop(1);
        counts(x, 17, 5, 6, 0);
    }

    // Promise 13: "0 HOLDS that were begun, 1 those that were LEFT, 2 the greatest DEPTH so far, 3 TILLS that are there."
    private static void tillsThatAreThere() {
        TillHolds x = new TillHolds();
        for (int t = 0; t <= 7; t++) {
            x.till(t, 0);
            counts(x, 0, 0, 0, t + 1);
        }
        x.till(7, 200);
        counts(x, 0, 0, 0, 8);
        for (int t = 7; t >= 0; t--) {
            x.drop(t);
            x.drop(t);
            counts(x, 0, 0, 0, t);
        }
    }

    // Promise 13: "0 HOLDS that were begun, 1 those that were LEFT, 2 the greatest DEPTH so far, 3 TILLS that are there."
    private static void countingChangesNothing() {
        TillHolds x = new TillHolds();
        x.till(0, 1);
        x.take(0, 1);
        counts(x, 1, 1, 1, 1);
        counts(x, 1, 1, 1, 1);
    }

    // Promise 13: "BAD."
    private static void badNumbers() {
        Watched w = new Watched();
        w.bad("count(-1)", w.x.count(-1));
        w.bad("count(4)", w.x.count(4));
        for (int far : Watched.FAR) {
            w.bad("count(" + far + ")", w.x.count(far));
        }
    }
}
