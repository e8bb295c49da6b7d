/** The edges of promise 3: drop. */
public final class Edge03DropTest {
    public static void main(String[] args) {
        whetherItWasThere();
        itsCoinsAreGone();
        badNumbers();
        Check.done();
    }

    // Promise 3: "whether it was there (1, 0)."
    private static void whetherItWasThere() {
        Watched w = new Watched();
        for (int t = 0; t <= 7; t++) {
            w.due("drop(" + t + "): it never was", w.x.drop(t), 0, 0, 0);
            w.x.till(t, 0);
            w.due("drop(" + t + ")", w.x.drop(t), 1, 0, 0);
            w.due("drop(" + t + "): a second time", w.x.drop(t), 0, 0, 0);
        }
        w.x.till(3, 0);
        w.x.shut(3, true);
        w.ready();
        w.due("drop(3): a shut one", w.x.drop(3), 1, 0, 0);
        Check.due("count(3)", w.x.count(3), 0);
    }

    // Promise 3: "A TILL is MISSING (its COINS are gone)"
    private static void itsCoinsAreGone() {
        Watched w = new Watched();
        w.x.till(3, 9);
        w.x.till(4, 9);
        w.x.put(3, 4, 9);
        w.x.put(4, 0, 1);
        w.x.take(3, 20);
        w.ready();
        w.due("drop(3): a full one but for one coin", w.x.drop(3), 1, 0, 0);
        w.due("look(3, 5)", w.x.look(3, 5), -11, 0, 0);
        w.due("take(3, 0)", w.x.take(3, 0), -11, 0, 0);
        w.hand(0, 0, 0, 0, 1);
        w.till(4, 1, 0, 0, 0, 0);
        Check.due("count(3)", w.x.count(3), 1);
        w.x.till(3, 9);
        w.till(3, 0, 0, 0, 0, 0);
        w.due("take(3, 20)", w.x.take(3, 20), -13, 1, 1);
    }

    // Promise 3: "BAD."
    private static void badNumbers() {
        Watched w = new Watched();
        w.x.till(0, 5);
        w.x.till(7, 5);
        String was = w.seen();
        w.bad("drop(-1)", w.x.drop(-1));
        w.bad("drop(8)", w.x.drop(8));
        for (int far : Watched.FAR) {
            w.bad("drop(" + far + ")", w.x.drop(far));
        }
        w.sameAs(was);
        Check.due("count(3)", w.x.count(3), 2);
    }
}
