/** The edges of promise 2: till. */
public final class Edge02TillTest {
    public static void main(String[] args) {
        aTillIsThereEmptyAndOpen();
        leastAndGreatestLimit();
        inPlaceOfWhatWas();
        inPlaceOfADroppedOne();
        badNumbers();
        Check.done();
    }

    // Promise 2: "A TILL is there, empty, open, with a LIMIT (0 to 200)"
    private static void aTillIsThereEmptyAndOpen() {
        Watched w = new Watched();
        for (int t = 0; t <= 7; t++) {
            w.due("till(" + t + ", 9)", w.x.till(t, 9), 1, 0, 0);
            w.till(t, 0, 0, 0, 0, 0);
            Check.due("look(" + t + ", 7)", w.x.look(t, 7), 9);
            Check.due("look(" + t + ", 8)", w.x.look(t, 8), 0);
            Check.due("count(3)", w.x.count(3), t + 1);
            w.ready();
        }
    }

    // Promise 2: "A TILL is there, empty, open, with a LIMIT (0 to 200)"
    private static void leastAndGreatestLimit() {
        Watched w = new Watched();
        w.due("till(0, 0)", w.x.till(0, 0), 1, 0, 0);
        w.due("till(1, 200)", w.x.till(1, 200), 1, 0, 0);
        Check.due("look(0, 7)", w.x.look(0, 7), 0);
        Check.due("look(1, 7)", w.x.look(1, 7), 200);
        w.ready();
        w.due("put(0, 0, 1): one more", w.x.put(0, 0, 1), -14, 1, 1);
        w.due("put(1, 0, 200)", w.x.put(1, 0, 200), 200, 1, 0);
    }

    // Promise 2: "in place of what was: 1."
    private static void inPlaceOfWhatWas() {
        Watched w = new Watched();
        w.x.till(6, 5);
        for (int kind = 0; kind <= 4; kind++) {
            w.x.put(6, kind, 1);
        }
        w.x.take(6, 1);
        w.x.shut(6, true);
        w.ready();
        w.due("till(6, 3): of a shut one, and of more coins than the new limit", w.x.till(6, 3), 1, 0, 0);
        w.till(6, 0, 0, 0, 0, 0);
        Check.due("look(6, 7)", w.x.look(6, 7), 3);
        Check.due("look(6, 8)", w.x.look(6, 8), 0);
        w.hand(1, 0, 0, 0, 0);
        Check.due("count(3): still one", w.x.count(3), 1);
        w.ready();
        w.due("put(6, 0, 3): up to the new limit", w.x.put(6, 0, 3), 3, 1, 0);
        w.due("till(6, 3): once more", w.x.till(6, 3), 1, 0, 0);
        w.till(6, 0, 0, 0, 0, 0);
    }

    // Promise 2: "in place of what was: 1."
    private static void inPlaceOfADroppedOne() {
        Watched w = new Watched();
        w.x.till(6, 5);
        w.x.put(6, 4, 5);
        w.x.shut(6, true);
        w.x.drop(6);
        w.ready();
        w.due("till(6, 1)", w.x.till(6, 1), 1, 0, 0);
        w.till(6, 0, 0, 0, 0, 0);
        Check.due("look(6, 7)", w.x.look(6, 7), 1);
        Check.due("look(6, 8)", w.x.look(6, 8), 0);
    }

    // Promise 2: "BAD."
    private static void badNumbers() {
        Watched w = new Watched();
        w.x.till(6, 5);
        w.x.put(6, 1, 2);
        String was = w.seen();
        w.bad("till(6, -1)", w.x.till(6, -1));
        w.bad("till(6, 201)", w.x.till(6, 201));
        w.bad("till(-1, 5)", w.x.till(-1, 5));
        w.bad("till(8, 5)", w.x.till(8, 5));
        for (int far : Watched.FAR) {
            w.bad("till(6, " + far + ")", w.x.till(6, far));
            w.bad("till(" + far + ", 5)", w.x.till(far, 5));
        }
        w.bad("till(3, 201): it stays missing", w.x.till(3, 201));
        w.sameAs(was);
        Check.due("count(3)", w.x.count(3), 1);
    }
}
