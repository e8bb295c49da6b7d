/** The edges of the terms: which tills, kinds and holds there are, and which answer comes first. */
public final class EdgeTermsTest {
    public static void main(String[] args) {
        tillsAreNumberedUpToSeven();
        kindsAreNumberedUpToFour();
        theLimitCountsCoinsOfAllKinds();
        theHandHasNoLimit();
        aMissingTillIsNotHeld();
        holdsAreCountedAndLeft();
        depthCountsOneTillTwice();
        badGoesBeforeEachFailure();
        failuresComeAsTheyAreMet();
        Check.done();
    }

    // Terms: "TILLS 0 to 7 are there or MISSING (all at first)."
    private static void tillsAreNumberedUpToSeven() {
        Watched w = new Watched();
        for (int t = 0; t <= 7; t++) {
            w.due("look(" + t + ", 5) at first", w.x.look(t, 5), -11, 0, 0);
        }
        w.due("till(0, 1): the least", w.x.till(0, 1), 1, 0, 0);
        w.due("till(7, 1): the greatest", w.x.till(7, 1), 1, 0, 0);
        for (int t = 1; t <= 6; t++) {
            w.due("look(" + t + ", 5): the others stay missing", w.x.look(t, 5), -11, 0, 0);
        }
        String was = w.seen();
        int[] outside = {-1, 8, Integer.MIN_VALUE, Integer.MAX_VALUE};
        for (int t : outside) {
            w.bad("till(" + t + ", 1)", w.x.till(t, 1));
            w.bad("drop(" + t + ")", w.x.drop(t));
            w.bad("shut(" + t + ", true)", w.x.shut(t, true));
            w.bad("put(" + t + ", 0, 1)", w.x.put(t, 0, 1));
            w.bad("take(" + t + ", 0)", w.x.take(t, 0));
            w.bad("move(" + t + ", 0, 0, true)", w.x.move(t, 0, 0, true));
            w.bad("move(0, " + t + ", 0, true)", w.x.move(0, t, 0, true));
            w.bad("share(" + t + ", 0, 0)", w.x.share(t, 0, 0));
            w.bad("share(0, " + t + ", 0)", w.x.share(0, t, 0));
            w.bad("look(" + t + ", 0)", w.x.look(t, 0));
        }
        w.sameAs(was);
        Check.due("count(3)", w.x.count(3), 2);
    }

    // Terms: "A TILL has COINS of kinds 0 to 4 (worth 1, 2, 5, 10, 20)"
    private static void kindsAreNumberedUpToFour() {
        Watched w = new Watched();
        int[] worths = {1, 2, 5, 10, 20};
        for (int kind = 0; kind <= 4; kind++) {
            w.x.till(kind, 1);
            w.due("put(" + kind + ", " + kind + ", 1)", w.x.put(kind, kind, 1), 1, 1, 0);
            Check.due("look(" + kind + ", 6)", w.x.look(kind, 6), worths[kind]);
            Check.due("share(" + kind + ", " + kind + ", " + kind + ")", w.x.share(kind, kind, kind), 0);
            w.ready();
        }
        String was = w.seen();
        int[] outside = {-1, 5, Integer.MIN_VALUE, Integer.MAX_VALUE};
        for (int kind : outside) {
            w.bad("put(0, " + kind + ", 0)", w.x.put(0, kind, 0));
            w.bad("share(0, 1, " + kind + ")", w.x.share(0, 1, kind));
        }
        w.sameAs(was);
    }

    // Terms: "a LIMIT of how many COINS in all, and may be SHUT."
    private static void theLimitCountsCoinsOfAllKinds() {
        Watched w = new Watched();
        w.x.till(2, 5);
        for (int kind = 0; kind <= 4; kind++) {
            w.due("put(2, " + kind + ", 1)", w.x.put(2, kind, 1), kind + 1, 1, 0);
        }
        w.till(2, 1, 1, 1, 1, 1);
        for (int kind = 0; kind <= 4; kind++) {
            w.due("put(2, " + kind + ", 1): a sixth", w.x.put(2, kind, 1), -14, 1, 1);
        }
        w.till(2, 1, 1, 1, 1, 1);
        w.hand(1, 1, 1, 1, 1);
        Check.due("look(2, 8): it is open", w.x.look(2, 8), 0);
        w.x.shut(2, true);
        Check.due("look(2, 8): it is shut", w.x.look(2, 8), 1);
    }

    // Terms: "THE HAND has COINS, too, without a LIMIT."
    private static void theHandHasNoLimit() {
        Watched w = new Watched();
        w.hand(0, 0, 0, 0, 0);
        w.x.till(0, 0);
        w.x.till(1, 200);
        w.x.put(1, 4, 200);
        for (int kind = 0; kind <= 4; kind++) {
            w.x.put(0, kind, 200);
            w.x.put(0, kind, 200);
        }
        w.hand(400, 400, 400, 400, 400);
        Check.due("take(1, 4000)", w.x.take(1, 4000), 200);
        w.hand(400, 400, 400, 400, 600);
    }

    // Terms: "A TILL is HELD while what is told is done within; one that is MISSING is not: FAILURE 1."
    private static void aMissingTillIsNotHeld() {
        Watched w = new Watched();
        w.x.till(0, 9);
        w.x.put(0, 0, 3);
        String was = w.seen();
        w.due("shut(5, true)", w.x.shut(5, true), -11, 0, 0);
        w.due("put(5, 0, 1)", w.x.put(5, 0, 1), -11, 0, 0);
        w.due("take(5, 0)", w.x.take(5, 0), -11, 0, 0);
        w.due("move(5, 0, 0, false)", w.x.move(5, 0, 0, false), -11, 0, 0);
        w.due("move(0, 5, 0, false)", w.x.move(0, 5, 0, false), -11, 1, 1);
        w.due("move(5, 5, 0, false)", w.x.move(5, 5, 0, false), -11, 0, 0);
        w.due("pass(5, 0, false)", w.x.pass(5, 0, false), -11, 0, 0);
        w.due("pass(50, 0, false)", w.x.pass(50, 0, false), -11, 0, 0);
        w.due("share(5, 0, 0)", w.x.share(5, 0, 0), -11, 0, 0);
        w.due("share(0, 5, 0)", w.x.share(0, 5, 0), -11, 1, 1);
        w.due("look(5, 8)", w.x.look(5, 8), -11, 0, 0);
        w.sameAs(was);
        w.deepest(1);
        w.x.till(5, 9);
        w.due("look(5, 8): it is there", w.x.look(5, 8), 0, 1, 0);
        w.x.drop(5);
        w.due("look(5, 8): it was dropped", w.x.look(5, 8), -11, 0, 0);
    }

    // Terms: "HOLDS are counted as they begin; one is LEFT, when a FAILURE comes out of it."
    private static void holdsAreCountedAndLeft() {
        Watched w = new Watched();
        w.due("till(0, 2)", w.x.till(0, 2), 1, 0, 0);
        w.due("till(1, 0)", w.x.till(1, 0), 1, 0, 0);
        w.due("put(0, 0, 2)", w.x.put(0, 0, 2), 2, 1, 0);
        w.due("put(0, 0, 1): full", w.x.put(0, 0, 1), -14, 1, 1);
        w.due("take(0, 1)", w.x.take(0, 1), 1, 1, 0);
        w.due("take(0, 2): short", w.x.take(0, 2), -13, 1, 1);
        w.due("move(0, 0, 1, true)", w.x.move(0, 0, 1, true), 1, 2, 0);
        w.due("move(0, 1, 1, true): both are left", w.x.move(0, 1, 1, true), -14, 2, 2);
        w.due("share(0, 1, 0)", w.x.share(0, 1, 0), 0, 2, 0);
        w.due("pass(0, 0, true)", w.x.pass(0, 0, true), 1, 1, 0);
        w.due("pass(101, 0, true)", w.x.pass(101, 0, true), 3, 3, 0);
        w.due("pass(107, 0, true): two are left, one did not begin", w.x.pass(107, 0, true), -11, 2, 2);
        w.due("first(1)", w.x.first(1), 0, 1, 0);
        w.due("shut(0, true)", w.x.shut(0, true), 0, 1, 0);
        w.due("share(0, 1, 0): both are left", w.x.share(0, 1, 0), -12, 2, 2);
        w.due("look(0, 8)", w.x.look(0, 8), 1, 1, 0);
        w.due("hand(5)", w.x.hand(5), 2, 0, 0);
        w.due("drop(0)", w.x.drop(0), 1, 0, 0);
        w.bad("take(1, -1)", w.x.take(1, -1));
    }

    // Terms: "DEPTH is how many HOLDS are within one another (of one TILL twice, too)."
    private static void depthCountsOneTillTwice() {
        Watched w = new Watched();
        w.x.till(3, 5);
        w.deepest(0);
        w.x.look(3, 0);
        w.x.look(3, 0);
        w.deepest(1);
        w.x.move(3, 3, 0, false);
        w.deepest(2);
        w.x.share(3, 3, 0);
        w.deepest(2);
        w.x.pass(333, 0, false);
        w.deepest(3);
        w.x.pass(33333, 0, true);
        w.deepest(5);
        w.x.pass(333334, 0, true);
        w.deepest(5);
        w.x.pass(333333, 0, true);
        w.deepest(6);
        Watched twice = new Watched();
        twice.x.till(3, 5);
        twice.x.share(3, 3, 0);
        twice.deepest(2);
    }

    // Terms: "Calls answer, the first of these that fits: BAD (a number is not as told), -10 less the FAILURE."
    private static void badGoesBeforeEachFailure() {
        Watched w = new Watched();
        w.x.till(0, 0);
        w.x.shut(0, true);
        w.x.till(1, 0);
        String was = w.seen();
        w.bad("put(5, 5, 1): 5 is missing", w.x.put(5, 5, 1));
        w.bad("put(5, 0, 201): 5 is missing", w.x.put(5, 0, 201));
        w.bad("put(0, 0, 201): 0 is shut", w.x.put(0, 0, 201));
        w.bad("put(1, 0, 201): 1 is full", w.x.put(1, 0, 201));
        w.bad("take(5, 10001): 5 is missing", w.x.take(5, 10001));
        w.bad("take(0, 10001): 0 is shut", w.x.take(0, 10001));
        w.bad("take(1, 10001): 1 is short", w.x.take(1, 10001));
        w.bad("move(5, 8, 0, true): 5 is missing", w.x.move(5, 8, 0, true));
        w.bad("move(0, 8, 0, true): 0 is shut", w.x.move(0, 8, 0, true));
        w.bad("move(1, 8, 1, true): 1 is short", w.x.move(1, 8, 1, true));
        w.bad("move(1, 5, -1, true): 5 is missing", w.x.move(1, 5, -1, true));
        w.bad("pass(58, 0, true): 5 is missing", w.x.pass(58, 0, true));
        w.bad("pass(10000, -1, true): 0 is shut", w.x.pass(10000, -1, true));
        w.bad("pass(19, 1, true): 1 is short", w.x.pass(19, 1, true));
        w.bad("share(5, 0, 5): 5 is missing", w.x.share(5, 0, 5));
        w.bad("share(0, 1, 5): 0 is shut", w.x.share(0, 1, 5));
        w.bad("share(0, 8, 0): 0 is shut", w.x.share(0, 8, 0));
        w.bad("look(5, 9): 5 is missing", w.x.look(5, 9));
        w.sameAs(was);
    }

    // Terms: "Calls answer, the first of these that fits: BAD (a number is not as told), -10 less the FAILURE."
    private static void failuresComeAsTheyAreMet() {
        Watched w = new Watched();
        w.x.till(0, 0);
        w.x.shut(0, true);
        w.x.till(1, 2);
        w.x.put(1, 0, 2);
        w.ready();
        w.due("put(0, 0, 1): shut, then full", w.x.put(0, 0, 1), -12, 1, 1);
        w.due("take(0, 1): shut, then short", w.x.take(0, 1), -12, 1, 1);
        w.due("move(0, 5, 1, true): shut, then missing", w.x.move(0, 5, 1, true), -12, 1, 1);
        w.due("move(1, 5, 3, true): short, then missing", w.x.move(1, 5, 3, true), -13, 1, 1);
        w.due("move(1, 0, 3, true): short, then shut", w.x.move(1, 0, 3, true), -13, 1, 1);
        w.due("move(1, 0, 1, true): shut, then full", w.x.move(1, 0, 1, true), -12, 2, 2);
        w.due("move(5, 0, 1, true): missing, then shut", w.x.move(5, 0, 1, true), -11, 0, 0);
        w.due("pass(15, 3, true): short, then missing", w.x.pass(15, 3, true), -13, 1, 1);
        w.due("pass(105, 1, true): shut, then missing", w.x.pass(105, 1, true), -12, 2, 2);
        w.due("pass(150, 1, true): missing, then shut", w.x.pass(150, 1, true), -11, 1, 1);
        w.due("share(0, 5, 0): missing, then shut", w.x.share(0, 5, 0), -11, 1, 1);
        w.due("share(1, 0, 0): shut, then full", w.x.share(1, 0, 0), -12, 2, 2);
        w.till(1, 2, 0, 0, 0, 0);
        w.hand(1, 0, 0, 0, 0);
    }
}
