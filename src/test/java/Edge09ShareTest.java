/** The edges of promise 9: share. */
public final class Edge09ShareTest {
    public static void main(String[] args) {
        theSecondIsHeldWithinTheFirst();
        smallDifferences();
        greatDifferences();
        onlyOneKindIsShared();
        oneTillTwice();
        shutTills();
        theOtherOneIsFilledToItsLimit();
        aLimitOfNone();
        howManyWent();
        badNumbers();
        eachFailure();
        Check.done();
    }

    /** Till 0 has a limit and coins of worth 1, and till 1 too. */
    private static Watched made(int limit, int coins, int otherLimit, int otherCoins) {
        Watched w = new Watched();
        w.x.till(0, limit);
        w.x.put(0, 0, coins);
        w.x.till(1, otherLimit);
        w.x.put(1, 0, otherCoins);
        w.ready();
        return w;
    }

    // Terms: "TO SHARE a kind between a and b: a is HELD; within, b is HELD"
    private static void theSecondIsHeldWithinTheFirst() {
        Watched w = made(9, 4, 9, 0);
        w.deepest(1);
        w.due("share(5, 6, 0): both are missing", w.x.share(5, 6, 0), -11, 0, 0);
        w.due("share(5, 0, 0): the first is missing", w.x.share(5, 0, 0), -11, 0, 0);
        w.due("share(0, 5, 0): the second is missing", w.x.share(0, 5, 0), -11, 1, 1);
        w.deepest(1);
        w.till(0, 4, 0, 0, 0, 0);
        w.due("share(0, 1, 0)", w.x.share(0, 1, 0), 2, 2, 0);
        w.deepest(2);
    }

    // Terms: "half the difference of what they have of it (cut towards 0) goes from the one that has more to the other one"
    private static void smallDifferences() {
        for (int more = 0; more <= 5; more++) {
            Watched w = made(20, 3 + more, 20, 3);
            w.due("share(0, 1, 0) of a difference of " + more, w.x.share(0, 1, 0), more / 2, 2, 0);
            w.till(0, 3 + more - more / 2, 0, 0, 0, 0);
            w.till(1, 3 + more / 2, 0, 0, 0, 0);
            Watched turned = made(20, 3, 20, 3 + more);
            turned.due("share(0, 1, 0) of a difference of -" + more, turned.x.share(0, 1, 0), more / 2, 2, 0);
            turned.till(0, 3 + more / 2, 0, 0, 0, 0);
            turned.till(1, 3 + more - more / 2, 0, 0, 0, 0);
            turned.hand(0, 0, 0, 0, 0);
        }
    }

    // Terms: "half the difference of what they have of it (cut towards 0) goes from the one that has more to the other one"
    private static void greatDifferences() {
        Watched w = made(200, 200, 200, 0);
        w.due("share(0, 1, 0): the greatest", w.x.share(0, 1, 0), 100, 2, 0);
        w.till(0, 100, 0, 0, 0, 0);
        w.till(1, 100, 0, 0, 0, 0);
        w.due("share(0, 1, 0): once more", w.x.share(0, 1, 0), 0, 2, 0);
        Watched odd = made(200, 0, 199, 199);
        odd.due("share(0, 1, 0): to the first", odd.x.share(0, 1, 0), 99, 2, 0);
        odd.till(0, 99, 0, 0, 0, 0);
        odd.till(1, 100, 0, 0, 0, 0);
    }

    // Terms: "half the difference of what they have of it (cut towards 0) goes from the one that has more to the other one"
    private static void onlyOneKindIsShared() {
        Watched w = made(50, 9, 50, 0);
        w.x.put(0, 1, 8);
        w.x.put(1, 4, 6);
        w.ready();
        w.due("share(0, 1, 3): none have it", w.x.share(0, 1, 3), 0, 2, 0);
        w.due("share(0, 1, 4): the greatest kind", w.x.share(0, 1, 4), 3, 2, 0);
        w.till(0, 9, 8, 0, 0, 3);
        w.till(1, 0, 0, 0, 0, 3);
        w.due("share(0, 1, 0): the least kind", w.x.share(0, 1, 0), 4, 2, 0);
        w.till(0, 5, 8, 0, 0, 3);
        w.till(1, 4, 0, 0, 0, 3);
        w.hand(0, 0, 0, 0, 0);
    }

    // Terms: "DEPTH is how many HOLDS are within one another (of one TILL twice, too)."
    private static void oneTillTwice() {
        Watched w = made(4, 4, 0, 0);
        w.due("share(0, 0, 0): a full one", w.x.share(0, 0, 0), 0, 2, 0);
        w.due("share(1, 1, 0): an empty one with a limit of 0", w.x.share(1, 1, 0), 0, 2, 0);
        w.deepest(2);
        w.till(0, 4, 0, 0, 0, 0);
        w.x.shut(0, true);
        w.ready();
        w.due("share(0, 0, 0): a shut one", w.x.share(0, 0, 0), -12, 2, 2);
        w.till(0, 4, 0, 0, 0, 0);
    }

    // Terms: "FAILURE 2, if a, then if b is SHUT"
    private static void shutTills() {
        Watched w = made(9, 4, 9, 0);
        w.x.shut(0, true);
        w.ready();
        w.due("share(0, 1, 0): the first", w.x.share(0, 1, 0), -12, 2, 2);
        w.due("share(1, 0, 0): the second", w.x.share(1, 0, 0), -12, 2, 2);
        w.due("share(0, 1, 4): though none would go", w.x.share(0, 1, 4), -12, 2, 2);
        w.due("share(1, 0, 4): though none would go", w.x.share(1, 0, 4), -12, 2, 2);
        w.due("share(0, 5, 0): but missing goes before", w.x.share(0, 5, 0), -11, 1, 1);
        w.x.shut(1, true);
        w.ready();
        w.due("share(0, 1, 0): both", w.x.share(0, 1, 0), -12, 2, 2);
        w.till(0, 4, 0, 0, 0, 0);
        w.till(1, 0, 0, 0, 0, 0);
        w.x.shut(0, false);
        w.x.shut(1, false);
        w.ready();
        w.due("share(0, 1, 0): both are open", w.x.share(0, 1, 0), 2, 2, 0);
        Watched full = made(9, 4, 1, 0);
        full.x.shut(1, true);
        full.ready();
        full.due("share(0, 1, 0): shut goes before full", full.x.share(0, 1, 0), -12, 2, 2);
    }

    // Terms: "4, if the other one would have more than its LIMIT (none go then)."
    private static void theOtherOneIsFilledToItsLimit() {
        Watched w = made(9, 9, 3, 0);
        w.due("share(0, 1, 0): one more than the limit", w.x.share(0, 1, 0), -14, 2, 2);
        w.due("share(1, 0, 0): of the first", w.x.share(1, 0, 0), -14, 2, 2);
        w.till(0, 9, 0, 0, 0, 0);
        w.till(1, 0, 0, 0, 0, 0);
        w.hand(0, 0, 0, 0, 0);
        w.x.take(0, 2);
        w.ready();
        w.due("share(1, 0, 0): just the limit", w.x.share(1, 0, 0), 3, 2, 0);
        w.till(0, 4, 0, 0, 0, 0);
        w.till(1, 3, 0, 0, 0, 0);
        w.due("share(0, 1, 0): none to a full one", w.x.share(0, 1, 0), 0, 2, 0);
        Watched others = made(9, 4, 3, 0);
        others.x.put(1, 4, 2);
        others.ready();
        others.due("share(0, 1, 0): coins of another kind count", others.x.share(0, 1, 0), -14, 2, 2);
        others.till(1, 0, 0, 0, 0, 2);
        others.x.take(1, 20);
        others.ready();
        others.due("share(0, 1, 0): one fewer", others.x.share(0, 1, 0), 2, 2, 0);
        others.till(1, 2, 0, 0, 0, 1);
        Watched giver = made(4, 4, 9, 0);
        giver.due("share(0, 1, 0): the one that has more may be full", giver.x.share(0, 1, 0), 2, 2, 0);
    }

    // Terms: "4, if the other one would have more than its LIMIT (none go then)."
    private static void aLimitOfNone() {
        Watched one = made(9, 1, 0, 0);
        one.due("share(0, 1, 0): half of 1 is none", one.x.share(0, 1, 0), 0, 2, 0);
        one.due("share(1, 0, 0)", one.x.share(1, 0, 0), 0, 2, 0);
        one.till(0, 1, 0, 0, 0, 0);
        Watched two = made(9, 2, 0, 0);
        two.due("share(0, 1, 0): half of 2 is one more", two.x.share(0, 1, 0), -14, 2, 2);
        two.due("share(1, 0, 0)", two.x.share(1, 0, 0), -14, 2, 2);
        two.till(0, 2, 0, 0, 0, 0);
        two.till(1, 0, 0, 0, 0, 0);
    }

    // Promise 9: "TO SHARE: how many COINS went."
    private static void howManyWent() {
        Watched w = made(20, 2, 20, 12);
        w.due("share(0, 1, 0): never below 0", w.x.share(0, 1, 0), 5, 2, 0);
        w.due("share(0, 1, 0): nothing to share", w.x.share(0, 1, 0), 0, 2, 0);
        w.due("share(0, 1, 2): they have none", w.x.share(0, 1, 2), 0, 2, 0);
    }

    // Promise 9: "BAD; 1, 2, 4."
    private static void badNumbers() {
        Watched w = made(9, 9, 9, 0);
        String was = w.seen();
        w.bad("share(-1, 0, 0)", w.x.share(-1, 0, 0));
        w.bad("share(8, 0, 0)", w.x.share(8, 0, 0));
        w.bad("share(0, -1, 0)", w.x.share(0, -1, 0));
        w.bad("share(0, 8, 0)", w.x.share(0, 8, 0));
        w.bad("share(0, 1, -1)", w.x.share(0, 1, -1));
        w.bad("share(0, 1, 5)", w.x.share(0, 1, 5));
        for (int far : Watched.FAR) {
            w.bad("share(" + far + ", 0, 0)", w.x.share(far, 0, 0));
            w.bad("share(0, " + far + ", 0)", w.x.share(0, far, 0));
            w.bad("share(0, 1, " + far + ")", w.x.share(0, 1, far));
        }
        w.sameAs(was);
    }

    // Promise 9: "BAD; 1, 2, 4."
    private static void eachFailure() {
        Watched w = made(9, 9, 1, 1);
        w.x.till(7, 9);
        w.x.shut(7, true);
        String was = w.seen();
        w.due("share(0, 6, 0)", w.x.share(0, 6, 0), -11, 1, 1);
        w.due("share(0, 7, 0)", w.x.share(0, 7, 0), -12, 2, 2);
        w.due("share(0, 1, 0)", w.x.share(0, 1, 0), -14, 2, 2);
        w.sameAs(was);
    }
}
