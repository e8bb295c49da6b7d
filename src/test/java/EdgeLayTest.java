/** The edges of how coins are laid: shown by put and by move. */
public final class EdgeLayTest {
    public static void main(String[] args) {
        nothingIsLaidIntoAShutTill();
        oneCoinOverTheLimit();
        aLimitOfNone();
        theGreatestLimit();
        theyGoThere();
        Check.done();
    }

    // Terms: "TO LAY COINS of THE HAND into a TILL: FAILURE 2"
    private static void nothingIsLaidIntoAShutTill() {
        Watched w = new Watched();
        w.x.till(1, 3);
        w.x.till(2, 3);
        w.x.put(2, 0, 1);
        w.x.shut(1, true);
        w.ready();
        w.due("put(1, 4, 3): they would fit", w.x.put(1, 4, 3), -12, 1, 1);
        w.hand(0, 0, 0, 0, 3);
        w.due("put(1, 3, 0): none", w.x.put(1, 3, 0), -12, 1, 1);
        w.due("put(1, 3, 4): they would not fit", w.x.put(1, 3, 4), -12, 1, 1);
        w.hand(0, 0, 0, 4, 3);
        w.due("move(2, 1, 0, false): none", w.x.move(2, 1, 0, false), -12, 2, 2);
        w.till(1, 0, 0, 0, 0, 0);
        w.till(2, 1, 0, 0, 0, 0);
    }

    // Terms: "FAILURE 4, if it would have more than its LIMIT, and none go"
    private static void oneCoinOverTheLimit() {
        Watched w = new Watched();
        w.x.till(1, 3);
        w.due("put(1, 0, 4): one more than the limit", w.x.put(1, 0, 4), -14, 1, 1);
        w.till(1, 0, 0, 0, 0, 0);
        w.hand(4, 0, 0, 0, 0);
        w.due("put(1, 0, 2)", w.x.put(1, 0, 2), 2, 1, 0);
        w.due("put(1, 4, 2): one more, of another kind", w.x.put(1, 4, 2), -14, 1, 1);
        w.till(1, 2, 0, 0, 0, 0);
        w.hand(4, 0, 0, 0, 2);
        w.due("put(1, 4, 1): just reached", w.x.put(1, 4, 1), 3, 1, 0);
        w.due("put(1, 3, 1): one more", w.x.put(1, 3, 1), -14, 1, 1);
        w.due("put(1, 3, 0): none into a full one", w.x.put(1, 3, 0), 3, 1, 0);
        w.till(1, 2, 0, 0, 0, 1);
        w.hand(4, 0, 0, 1, 2);
    }

    // Terms: "FAILURE 4, if it would have more than its LIMIT, and none go"
    private static void aLimitOfNone() {
        Watched w = new Watched();
        w.x.till(1, 0);
        w.due("put(1, 0, 0): none", w.x.put(1, 0, 0), 0, 1, 0);
        w.due("put(1, 0, 1)", w.x.put(1, 0, 1), -14, 1, 1);
        w.till(1, 0, 0, 0, 0, 0);
        w.hand(1, 0, 0, 0, 0);
    }

    // Terms: "FAILURE 4, if it would have more than its LIMIT, and none go"
    private static void theGreatestLimit() {
        Watched w = new Watched();
        w.x.till(1, 200);
        w.x.till(2, 199);
        w.due("put(1, 4, 200): just reached", w.x.put(1, 4, 200), 200, 1, 0);
        w.due("put(1, 4, 1): one more", w.x.put(1, 4, 1), -14, 1, 1);
        w.due("put(2, 4, 200): one more", w.x.put(2, 4, 200), -14, 1, 1);
        w.due("move(1, 2, 4000, true): one more", w.x.move(1, 2, 4000, true), -14, 2, 2);
        w.due("move(1, 2, 3980, true): just reached", w.x.move(1, 2, 3980, true), 199, 2, 0);
        w.till(1, 0, 0, 0, 0, 1);
        w.till(2, 0, 0, 0, 0, 199);
        w.hand(0, 0, 0, 0, 201);
    }

    // Terms: "else they go there."
    private static void theyGoThere() {
        Watched w = new Watched();
        w.x.till(1, 2);
        w.x.till(2, 2);
        w.due("put(1, 1, 1)", w.x.put(1, 1, 1), 1, 1, 0);
        w.hand(0, 0, 0, 0, 0);
        w.due("move(1, 2, 2, false)", w.x.move(1, 2, 2, false), 1, 2, 0);
        w.hand(0, 0, 0, 0, 0);
        w.till(1, 0, 0, 0, 0, 0);
        w.till(2, 0, 1, 0, 0, 0);
    }
}
