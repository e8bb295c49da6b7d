/** The edges of promise 6: take. EdgePayTest has those of how a till pays. */
public final class Edge06TakeTest {
    public static void main(String[] args) {
        leastAndGreatestWorth();
        howManyCoins();
        badNumbers();
        eachFailure();
        Check.done();
    }

    // Promise 6: "A TILL is HELD, and PAYS a worth (0 to 10000)"
    private static void leastAndGreatestWorth() {
        Watched w = new Watched();
        w.x.till(0, 200);
        w.x.till(7, 200);
        w.x.put(0, 4, 200);
        w.ready();
        w.due("take(0, 0)", w.x.take(0, 0), 0, 1, 0);
        w.due("take(7, 0): of an empty one", w.x.take(7, 0), 0, 1, 0);
        w.due("take(0, 10000): no till has that much", w.x.take(0, 10000), -13, 1, 1);
        w.hand(0, 0, 0, 0, 0);
        w.till(0, 0, 0, 0, 0, 200);
        w.due("take(0, 4000): the most", w.x.take(0, 4000), 200, 1, 0);
        w.hand(0, 0, 0, 0, 200);
        w.till(0, 0, 0, 0, 0, 0);
        w.deepest(1);
    }

    // Promise 6: "how many COINS."
    private static void howManyCoins() {
        Watched w = new Watched();
        w.x.till(3, 200);
        w.x.put(3, 0, 100);
        w.x.put(3, 4, 100);
        w.ready();
        w.due("take(3, 20): one, not twenty", w.x.take(3, 20), 1, 1, 0);
        w.due("take(3, 19)", w.x.take(3, 19), 19, 1, 0);
        w.due("take(3, 0)", w.x.take(3, 0), 0, 1, 0);
        w.due("take(3, 2061): all", w.x.take(3, 2061), 180, 1, 0);
        w.hand(100, 0, 0, 0, 100);
    }

    // Promise 6: "BAD; 1, 2, 3."
    private static void badNumbers() {
        Watched w = new Watched();
        w.x.till(0, 9);
        w.x.put(0, 0, 9);
        String was = w.seen();
        w.bad("take(-1, 1)", w.x.take(-1, 1));
        w.bad("take(8, 1)", w.x.take(8, 1));
        w.bad("take(0, -1)", w.x.take(0, -1));
        w.bad("take(0, 10001)", w.x.take(0, 10001));
        for (int far : Watched.FAR) {
            w.bad("take(" + far + ", 1)", w.x.take(far, 1));
            w.bad("take(0, " + far + ")", w.x.take(0, far));
        }
        w.sameAs(was);
    }

    // Promise 6: "BAD; 1, 2, 3."
    private static void eachFailure() {
        Watched w = new Watched();
        w.x.till(0, 9);
        w.x.put(0, 1, 2);
        w.x.till(1, 9);
        w.x.put(1, 1, 2);
        w.x.shut(1, true);
        String was = w.seen();
        w.due("take(2, 0): missing", w.x.take(2, 0), -11, 0, 0);
        w.due("take(1, 2): shut", w.x.take(1, 2), -12, 1, 1);
        w.due("take(0, 3): short", w.x.take(0, 3), -13, 1, 1);
        w.due("take(0, 5): short", w.x.take(0, 5), -13, 1, 1);
        w.sameAs(was);
        w.due("take(0, 4): just all", w.x.take(0, 4), 2, 1, 0);
        w.due("take(0, 1): it has none", w.x.take(0, 1), -13, 1, 1);
        w.hand(0, 2, 0, 0, 0);
    }
}
