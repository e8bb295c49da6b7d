/** The edges of promise 1: a new object has nothing at all. */
public final class Edge01NewObjectTest {
    public static void main(String[] args) {
        allTillsAreMissing();
        theHandIsEmpty();
        objectsShareNothing();
        Check.done();
    }

    // Promise 1: "All TILLS MISSING, THE HAND empty."
    private static void allTillsAreMissing() {
        Watched w = new Watched();
        Check.due("count(3)", w.x.count(3), 0);
        for (int t = 0; t <= 7; t++) {
            w.due("look(" + t + ", 0)", w.x.look(t, 0), -11, 0, 0);
            w.due("take(" + t + ", 0)", w.x.take(t, 0), -11, 0, 0);
            w.due("drop(" + t + ")", w.x.drop(t), 0, 0, 0);
        }
        w.due("first(0)", w.x.first(0), TillHolds.NONE, 0, 0);
        w.due("pass(0, 0, true)", w.x.pass(0, 0, true), -11, 0, 0);
        w.deepest(0);
    }

    // Promise 1: "All TILLS MISSING, THE HAND empty."
    private static void theHandIsEmpty() {
        Watched w = new Watched();
        w.hand(0, 0, 0, 0, 0);
        for (int what = 0; what <= 3; what++) {
            Check.due("count(" + what + ")", w.x.count(what), 0);
        }
    }

    // Promise 1: "All TILLS MISSING, THE HAND empty."
    private static void objectsShareNothing() {
        Watched used = new Watched();
        used.x.till(0, 1);
        used.x.put(0, 4, 2);
        used.x.pass(0, 0, false);
        Watched w = new Watched();
        w.hand(0, 0, 0, 0, 0);
        w.due("look(0, 5)", w.x.look(0, 5), -11, 0, 0);
        Check.due("count(0)", w.x.count(0), 0);
        Check.due("count(1)", w.x.count(1), 0);
        Check.due("count(2)", w.x.count(2), 0);
        Check.due("count(3)", w.x.count(3), 0);
        used.hand(0, 0, 0, 0, 2);
    }
}
