/** The edges of promise 10: first. */
public final class Edge10FirstTest {
    public static void main(String[] args) {
        noTillIsThere();
        onlyTheLastTillIsThere();
        oneBehindTheOther();
        itIsOpen();
        itCouldPayJustThat();
        aWorthOfNothing();
        nothingGoes();
        noneCould();
        badNumbers();
        Check.done();
    }

    // Promise 10: "TILLS that are there, by their numbers, are HELD one behind the other"
    private static void noTillIsThere() {
        Watched w = new Watched();
        w.due("first(0)", w.x.first(0), TillHolds.NONE, 0, 0);
        w.due("first(10000)", w.x.first(10000), TillHolds.NONE, 0, 0);
        w.x.till(4, 1);
        w.x.drop(4);
        w.due("first(0): it was dropped", w.x.first(0), TillHolds.NONE, 0, 0);
        w.deepest(0);
    }

    // Promise 10: "TILLS that are there, by their numbers, are HELD one behind the other"
    private static void onlyTheLastTillIsThere() {
        Watched w = new Watched();
        w.x.till(7, 1);
        w.due("first(0)", w.x.first(0), 7, 1, 0);
        w.x.till(0, 1);
        w.due("first(0): the least", w.x.first(0), 0, 1, 0);
    }

    // Promise 10: "TILLS that are there, by their numbers, are HELD one behind the other"
    private static void oneBehindTheOther() {
        Watched w = new Watched();
        for (int t = 7; t >= 0; t--) {
            w.x.till(t, 9);
        }
        w.x.put(7, 0, 1);
        w.ready();
        w.due("first(1): all eight are held", w.x.first(1), 7, 8, 0);
        w.deepest(1);
        w.x.drop(3);
        w.due("first(1): the missing one is not", w.x.first(1), 7, 7, 0);
        w.x.put(4, 0, 1);
        w.ready();
        w.due("first(1): those behind 4 are not", w.x.first(1), 4, 4, 0);
        w.deepest(1);
    }

    // Promise 10: "up to the first that is open and could PAY a worth (nothing goes): which"
    private static void itIsOpen() {
        Watched w = new Watched();
        w.x.till(1, 9);
        w.x.till(2, 9);
        w.x.put(1, 2, 1);
        w.x.put(2, 2, 1);
        w.x.shut(1, true);
        w.ready();
        w.due("first(5): 1 is shut, but held", w.x.first(5), 2, 2, 0);
        w.due("first(0)", w.x.first(0), 2, 2, 0);
        w.x.shut(2, true);
        w.ready();
        w.due("first(0): all are shut", w.x.first(0), TillHolds.NONE, 2, 0);
        w.x.shut(1, false);
        w.ready();
        w.due("first(5)", w.x.first(5), 1, 1, 0);
    }

    // Promise 10: "up to the first that is open and could PAY a worth (nothing goes): which"
    private static void itCouldPayJustThat() {
        Watched w = new Watched();
        w.x.till(1, 9);
        w.x.put(1, 1, 3);
        w.x.put(1, 2, 1);
        w.x.till(2, 9);
        w.x.put(2, 1, 3);
        w.x.till(3, 200);
        w.x.put(3, 4, 200);
        w.ready();
        w.due("first(11): all of 1", w.x.first(11), 1, 1, 0);
        w.due("first(12): one more", w.x.first(12), TillHolds.NONE, 3, 0);
        w.due("first(6): 1 would pay 5 first, and be short", w.x.first(6), 2, 2, 0);
        w.due("first(1): less than the least coin", w.x.first(1), TillHolds.NONE, 3, 0);
        w.due("first(4000): the most that a till can have", w.x.first(4000), 3, 3, 0);
        w.due("first(4001): one more", w.x.first(4001), TillHolds.NONE, 3, 0);
    }

    // Promise 10: "up to the first that is open and could PAY a worth (nothing goes): which"
    private static void aWorthOfNothing() {
        Watched w = new Watched();
        w.x.till(5, 0);
        w.x.till(6, 9);
        w.x.put(6, 0, 1);
        w.ready();
        w.due("first(0): an empty one could, too", w.x.first(0), 5, 1, 0);
    }

    // Promise 10: "up to the first that is open and could PAY a worth (nothing goes): which"
    private static void nothingGoes() {
        Watched w = new Watched();
        w.x.till(5, 2);
        w.x.put(5, 3, 2);
        w.x.till(6, 0);
        w.x.put(6, 1, 1);
        String was = w.seen();
        w.due("first(20): all that it has", w.x.first(20), 5, 1, 0);
        w.due("first(20): again", w.x.first(20), 5, 1, 0);
        w.due("first(15): it could not", w.x.first(15), TillHolds.NONE, 2, 0);
        w.sameAs(was);
        w.hand(0, 1, 0, 0, 0);
    }

    // Promise 10: "NONE: none could."
    private static void noneCould() {
        Watched w = new Watched();
        for (int t = 0; t <= 7; t++) {
            w.x.till(t, 0);
        }
        w.due("first(1): all are empty", w.x.first(1), TillHolds.NONE, 8, 0);
        w.due("first(10000): the greatest worth", w.x.first(10000), TillHolds.NONE, 8, 0);
        w.due("first(0)", w.x.first(0), 0, 1, 0);
        w.deepest(1);
    }

    // Promise 10: "BAD."
    private static void badNumbers() {
        Watched w = new Watched();
        w.bad("first(-1): none is there", w.x.first(-1));
        w.x.till(0, 9);
        String was = w.seen();
        w.bad("first(-1)", w.x.first(-1));
        w.bad("first(10001)", w.x.first(10001));
        for (int far : Watched.FAR) {
            w.bad("first(" + far + ")", w.x.first(far));
        }
        w.due("first(10000): the greatest", w.x.first(10000), TillHolds.NONE, 1, 0);
        w.due("first(0): the least", w.x.first(0), 0, 1, 0);
        w.sameAs(was);
    }
}
