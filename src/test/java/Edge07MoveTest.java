/** The edges of promise 7: move. */
public final class Edge07MoveTest {
    public static void main(String[] args) {
        theFirstPaysWithinItsHold();
        theFirstFails();
        justTheseCoinsAreLaid();
        theSecondIsFilledToItsLimit();
        nothingIsMoved();
        withBackTheyComeBack();
        withBackToAFullTill();
        withoutBackTheyStayInTheHand();
        withinOneTill();
        howManyCoins();
        badNumbers();
        eachFailure();
        Check.done();
    }

    /** Till 0 is full with 2, 2 and 1 coins of worth 1, 2 and 5; 1 has room for one; 2 is shut; the hand has some. */
    private static Watched made() {
        Watched w = new Watched();
        w.x.till(0, 5);
        w.x.put(0, 0, 2);
        w.x.put(0, 1, 2);
        w.x.put(0, 2, 1);
        w.x.till(1, 2);
        w.x.put(1, 4, 1);
        w.x.till(2, 9);
        w.x.shut(2, true);
        w.x.till(3, 0);
        w.x.put(3, 0, 3);
        w.x.put(3, 2, 1);
        w.ready();
        return w;
    }

    // Terms: "TO MOVE a worth from a to b: a is HELD; within, it PAYS that"
    private static void theFirstPaysWithinItsHold() {
        Watched w = made();
        w.deepest(1);
        w.due("move(0, 1, 5, false)", w.x.move(0, 1, 5, false), 1, 2, 0);
        w.deepest(2);
        w.till(0, 2, 2, 0, 0, 0);
        w.till(1, 0, 0, 1, 0, 1);
        w.hand(3, 0, 1, 0, 0);
    }

    // Terms: "TO MOVE a worth from a to b: a is HELD; within, it PAYS that"
    private static void theFirstFails() {
        Watched w = made();
        String was = w.seen();
        w.due("move(5, 0, 0, true): missing", w.x.move(5, 0, 0, true), -11, 0, 0);
        w.due("move(5, 6, 0, false): both are missing", w.x.move(5, 6, 0, false), -11, 0, 0);
        w.due("move(2, 0, 0, true): shut", w.x.move(2, 0, 0, true), -12, 1, 1);
        w.due("move(2, 2, 0, false): shut, and once held", w.x.move(2, 2, 0, false), -12, 1, 1);
        w.due("move(0, 1, 12, true): one more than all", w.x.move(0, 1, 12, true), -13, 1, 1);
        w.due("move(3, 0, 1, false): it has none, though the hand has", w.x.move(3, 0, 1, false), -13, 1, 1);
        w.sameAs(was);
        w.deepest(1);
    }

    // Terms: "within, b is HELD, and just these COINS are LAID there."
    private static void justTheseCoinsAreLaid() {
        Watched w = made();
        w.x.till(4, 200);
        w.ready();
        w.due("move(0, 4, 6, true): of kinds that the hand has, too", w.x.move(0, 4, 6, true), 2, 2, 0);
        w.till(4, 1, 0, 1, 0, 0);
        w.till(0, 1, 2, 0, 0, 0);
        w.hand(3, 0, 1, 0, 0);
    }

    // Terms: "within, b is HELD, and just these COINS are LAID there."
    private static void theSecondIsFilledToItsLimit() {
        Watched w = made();
        w.due("move(0, 1, 7, true): one more than its limit", w.x.move(0, 1, 7, true), -14, 2, 2);
        w.till(1, 0, 0, 0, 0, 1);
        w.due("move(0, 1, 2, true): just its limit", w.x.move(0, 1, 2, true), 1, 2, 0);
        w.till(1, 0, 1, 0, 0, 1);
        w.due("move(0, 1, 1, true): it is full", w.x.move(0, 1, 1, true), -14, 2, 2);
        w.till(0, 2, 1, 1, 0, 0);
        w.hand(3, 0, 1, 0, 0);
    }

    // Terms: "within, b is HELD, and just these COINS are LAID there."
    private static void nothingIsMoved() {
        Watched w = made();
        String was = w.seen();
        w.due("move(0, 3, 0, true): to a limit of 0", w.x.move(0, 3, 0, true), 0, 2, 0);
        w.due("move(3, 0, 0, false): from an empty to a full one", w.x.move(3, 0, 0, false), 0, 2, 0);
        w.due("move(0, 2, 0, false): to a shut one", w.x.move(0, 2, 0, false), -12, 2, 2);
        w.due("move(0, 5, 0, false): to a missing one", w.x.move(0, 5, 0, false), -11, 1, 1);
        w.sameAs(was);
    }

    // Terms: "With BACK, if b FAILS, these COINS come back to a from THE HAND, whatever a is, as a's HOLD is left"
    private static void withBackTheyComeBack() {
        Watched w = made();
        String was = w.seen();
        w.due("move(0, 5, 6, true): missing", w.x.move(0, 5, 6, true), -11, 1, 1);
        w.sameAs(was);
        w.due("move(0, 2, 6, true): shut", w.x.move(0, 2, 6, true), -12, 2, 2);
        w.sameAs(was);
        w.due("move(0, 3, 1, true): a limit of 0", w.x.move(0, 3, 1, true), -14, 2, 2);
        w.sameAs(was);
        w.hand(3, 0, 1, 0, 0);
    }

    // Terms: "With BACK, if b FAILS, these COINS come back to a from THE HAND, whatever a is, as a's HOLD is left"
    private static void withBackToAFullTill() {
        Watched w = made();
        Check.due("look(0, 5)", w.x.look(0, 5), w.x.look(0, 7));
        w.ready();
        w.due("move(0, 1, 11, true): all that it has", w.x.move(0, 1, 11, true), -14, 2, 2);
        w.till(0, 2, 2, 1, 0, 0);
        w.hand(3, 0, 1, 0, 0);
        w.due("move(0, 5, 11, true): all that it has", w.x.move(0, 5, 11, true), -11, 1, 1);
        w.till(0, 2, 2, 1, 0, 0);
        w.hand(3, 0, 1, 0, 0);
        w.due("put(0, 0, 1): it is full again", w.x.put(0, 0, 1), -14, 1, 1);
    }

    // Terms: "without it they stay in THE HAND."
    private static void withoutBackTheyStayInTheHand() {
        Watched w = made();
        w.due("move(0, 5, 5, false): missing", w.x.move(0, 5, 5, false), -11, 1, 1);
        w.hand(3, 0, 2, 0, 0);
        w.till(0, 2, 2, 0, 0, 0);
        w.due("move(0, 2, 2, false): shut", w.x.move(0, 2, 2, false), -12, 2, 2);
        w.hand(3, 1, 2, 0, 0);
        w.till(0, 2, 1, 0, 0, 0);
        w.due("move(0, 1, 4, false): full", w.x.move(0, 1, 4, false), -14, 2, 2);
        w.hand(5, 2, 2, 0, 0);
        w.till(0, 0, 0, 0, 0, 0);
        w.till(1, 0, 0, 0, 0, 1);
        w.till(2, 0, 0, 0, 0, 0);
    }

    // Terms: "DEPTH is how many HOLDS are within one another (of one TILL twice, too)."
    private static void withinOneTill() {
        Watched w = made();
        String was = w.seen();
        w.due("move(0, 0, 11, true): all of a full one", w.x.move(0, 0, 11, true), 5, 2, 0);
        w.deepest(2);
        w.due("move(0, 0, 0, false)", w.x.move(0, 0, 0, false), 0, 2, 0);
        w.due("move(0, 0, 12, false): short, and once held", w.x.move(0, 0, 12, false), -13, 1, 1);
        w.sameAs(was);
    }

    // Promise 7: "TO MOVE: how many COINS."
    private static void howManyCoins() {
        Watched w = new Watched();
        w.x.till(0, 200);
        w.x.till(7, 200);
        w.x.put(0, 0, 180);
        w.x.put(0, 4, 20);
        w.ready();
        w.due("move(0, 7, 0, true)", w.x.move(0, 7, 0, true), 0, 2, 0);
        w.due("move(0, 7, 1, true)", w.x.move(0, 7, 1, true), 1, 2, 0);
        w.due("move(0, 7, 40, false): not how many it has then", w.x.move(0, 7, 40, false), 2, 2, 0);
        w.due("move(7, 0, 41, false)", w.x.move(7, 0, 41, false), 3, 2, 0);
        w.due("move(0, 7, 580, false): the most coins", w.x.move(0, 7, 580, false), 200, 2, 0);
        w.till(0, 0, 0, 0, 0, 0);
        w.till(7, 180, 0, 0, 0, 20);
        w.hand(0, 0, 0, 0, 0);
    }

    // Promise 7: "BAD; 1 to 4."
    private static void badNumbers() {
        Watched w = made();
        String was = w.seen();
        w.bad("move(-1, 0, 0, true)", w.x.move(-1, 0, 0, true));
        w.bad("move(8, 0, 0, true)", w.x.move(8, 0, 0, true));
        w.bad("move(0, -1, 1, false)", w.x.move(0, -1, 1, false));
        w.bad("move(0, 8, 1, false)", w.x.move(0, 8, 1, false));
        w.bad("move(0, 1, -1, true)", w.x.move(0, 1, -1, true));
        w.bad("move(0, 1, 10001, true)", w.x.move(0, 1, 10001, true));
        for (int far : Watched.FAR) {
            w.bad("move(" + far + ", 0, 0, true)", w.x.move(far, 0, 0, true));
            w.bad("move(0, " + far + ", 1, false)", w.x.move(0, far, 1, false));
            w.bad("move(0, 1, " + far + ", false)", w.x.move(0, 1, far, false));
        }
        w.due("move(0, 1, 10000, true): the greatest worth", w.x.move(0, 1, 10000, true), -13, 1, 1);
        w.due("move(0, 1, 0, true): the least", w.x.move(0, 1, 0, true), 0, 2, 0);
        w.sameAs(was);
    }

    // Promise 7: "BAD; 1 to 4."
    private static void eachFailure() {
        Watched w = made();
        String was = w.seen();
        w.due("move(0, 6, 1, true)", w.x.move(0, 6, 1, true), -11, 1, 1);
        w.due("move(0, 2, 1, true)", w.x.move(0, 2, 1, true), -12, 2, 2);
        w.due("move(1, 0, 1, true)", w.x.move(1, 0, 1, true), -13, 1, 1);
        w.due("move(1, 0, 20, true)", w.x.move(1, 0, 20, true), -14, 2, 2);
        w.sameAs(was);
        w.due("move(1, 0, 20, false)", w.x.move(1, 0, 20, false), -14, 2, 2);
        w.hand(3, 0, 1, 0, 1);
    }
}
