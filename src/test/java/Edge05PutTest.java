/** The edges of promise 5: put. */
public final class Edge05PutTest {
    public static void main(String[] args) {
        leastAndGreatestNumber();
        theyAloneAreLaid();
        theyStayInTheHandWhereThatFails();
        howManyTheTillHas();
        badNumbers();
        eachFailure();
        Check.done();
    }

    // Promise 5: "A TILL is HELD; n new COINS (0 to 200) of a kind come to THE HAND"
    private static void leastAndGreatestNumber() {
        Watched w = new Watched();
        w.x.till(0, 200);
        w.x.till(7, 0);
        w.due("put(0, 0, 0)", w.x.put(0, 0, 0), 0, 1, 0);
        w.due("put(0, 0, 1)", w.x.put(0, 0, 1), 1, 1, 0);
        w.due("put(0, 4, 199)", w.x.put(0, 4, 199), 200, 1, 0);
        w.till(0, 1, 0, 0, 0, 199);
        w.hand(0, 0, 0, 0, 0);
        w.due("put(7, 4, 200): more than the limit, but no bad number", w.x.put(7, 4, 200), -14, 1, 1);
        w.hand(0, 0, 0, 0, 200);
        w.deepest(1);
    }

    // Promise 5: "and (they alone) are LAID"
    private static void theyAloneAreLaid() {
        Watched w = new Watched();
        w.x.till(0, 3);
        w.x.till(1, 0);
        for (int kind = 0; kind <= 4; kind++) {
            w.x.put(1, kind, 2);
        }
        w.ready();
        w.due("put(0, 2, 0): none, though the hand has some", w.x.put(0, 2, 0), 0, 1, 0);
        w.due("put(0, 2, 3): the hand has more of that kind", w.x.put(0, 2, 3), 3, 1, 0);
        w.till(0, 0, 0, 3, 0, 0);
        w.hand(2, 2, 2, 2, 2);
    }

    // Promise 5: "where that FAILS, they stay in THE HAND"
    private static void theyStayInTheHandWhereThatFails() {
        Watched w = new Watched();
        w.x.till(0, 3);
        w.x.till(1, 3);
        w.x.shut(1, true);
        w.ready();
        w.due("put(0, 1, 4): full", w.x.put(0, 1, 4), -14, 1, 1);
        w.hand(0, 4, 0, 0, 0);
        w.due("put(1, 3, 1): shut", w.x.put(1, 3, 1), -12, 1, 1);
        w.hand(0, 4, 0, 1, 0);
        w.due("put(1, 3, 0): shut, and none stay", w.x.put(1, 3, 0), -12, 1, 1);
        w.hand(0, 4, 0, 1, 0);
        w.due("put(5, 0, 9): missing, so none came", w.x.put(5, 0, 9), -11, 0, 0);
        w.hand(0, 4, 0, 1, 0);
        w.till(0, 0, 0, 0, 0, 0);
        w.till(1, 0, 0, 0, 0, 0);
    }

    // Promise 5: "how many COINS the TILL has."
    private static void howManyTheTillHas() {
        Watched w = new Watched();
        w.x.till(0, 10);
        w.due("put(0, 0, 4)", w.x.put(0, 0, 4), 4, 1, 0);
        w.due("put(0, 4, 5): of all kinds", w.x.put(0, 4, 5), 9, 1, 0);
        w.due("put(0, 2, 0): not how many came", w.x.put(0, 2, 0), 9, 1, 0);
        w.due("put(0, 2, 1): just the limit", w.x.put(0, 2, 1), 10, 1, 0);
        w.due("put(0, 2, 0): a full one", w.x.put(0, 2, 0), 10, 1, 0);
    }

    // Promise 5: "BAD; 1, 2, 4."
    private static void badNumbers() {
        Watched w = new Watched();
        w.x.till(0, 200);
        String was = w.seen();
        w.bad("put(-1, 0, 1)", w.x.put(-1, 0, 1));
        w.bad("put(8, 0, 1)", w.x.put(8, 0, 1));
        w.bad("put(0, -1, 1)", w.x.put(0, -1, 1));
        w.bad("put(0, 5, 1)", w.x.put(0, 5, 1));
        w.bad("put(0, 0, -1)", w.x.put(0, 0, -1));
        w.bad("put(0, 0, 201)", w.x.put(0, 0, 201));
        for (int far : Watched.FAR) {
            w.bad("put(" + far + ", 0, 1)", w.x.put(far, 0, 1));
            w.bad("put(0, " + far + ", 1)", w.x.put(0, far, 1));
            w.bad("put(0, 0, " + far + ")", w.x.put(0, 0, far));
        }
        w.sameAs(was);
    }

    // Promise 5: "BAD; 1, 2, 4."
    private static void eachFailure() {
        Watched w = new Watched();
        w.x.till(0, 1);
        w.x.till(1, 1);
        w.x.shut(1, true);
        w.ready();
        w.due("put(2, 0, 0): missing", w.x.put(2, 0, 0), -11, 0, 0);
        w.due("put(1, 0, 2): shut", w.x.put(1, 0, 2), -12, 1, 1);
        w.due("put(0, 0, 2): full", w.x.put(0, 0, 2), -14, 1, 1);
        w.hand(4, 0, 0, 0, 0);
        w.till(0, 0, 0, 0, 0, 0);
        w.till(1, 0, 0, 0, 0, 0);
    }
}
