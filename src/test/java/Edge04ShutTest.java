/** The edges of promise 4: shut. */
public final class Edge04ShutTest {
    public static void main(String[] args) {
        whetherItWas();
        coinsStayInAShutTill();
        badNumbersAndAMissingTill();
        Check.done();
    }

    // Promise 4: "A TILL is HELD, and is SHUT, or open: whether it was (1, 0)."
    private static void whetherItWas() {
        Watched w = new Watched();
        for (int t = 0; t <= 7; t += 7) {
            w.x.till(t, 0);
            w.due("shut(" + t + ", false): an open one", w.x.shut(t, false), 0, 1, 0);
            w.due("shut(" + t + ", true)", w.x.shut(t, true), 0, 1, 0);
            w.due("shut(" + t + ", true): a shut one", w.x.shut(t, true), 1, 1, 0);
            w.due("look(" + t + ", 8)", w.x.look(t, 8), 1, 1, 0);
            w.due("shut(" + t + ", false)", w.x.shut(t, false), 1, 1, 0);
            w.due("shut(" + t + ", false): open again", w.x.shut(t, false), 0, 1, 0);
            w.due("look(" + t + ", 8)", w.x.look(t, 8), 0, 1, 0);
        }
        w.deepest(1);
    }

    // Promise 4: "A TILL is HELD, and is SHUT, or open: whether it was (1, 0)."
    private static void coinsStayInAShutTill() {
        Watched w = new Watched();
        w.x.till(2, 4);
        w.x.till(3, 4);
        w.x.put(2, 3, 4);
        w.x.shut(2, true);
        w.till(2, 0, 0, 0, 4, 0);
        Check.due("look(2, 7)", w.x.look(2, 7), 4);
        Check.due("look(3, 8): the other stays open", w.x.look(3, 8), 0);
        w.x.shut(2, false);
        w.ready();
        w.due("take(2, 40)", w.x.take(2, 40), 4, 1, 0);
    }

    // Promise 4: "BAD; 1."
    private static void badNumbersAndAMissingTill() {
        Watched w = new Watched();
        w.x.till(2, 4);
        String was = w.seen();
        w.bad("shut(-1, true)", w.x.shut(-1, true));
        w.bad("shut(8, true)", w.x.shut(8, true));
        for (int far : Watched.FAR) {
            w.bad("shut(" + far + ", false)", w.x.shut(far, false));
        }
        w.due("shut(3, true): missing", w.x.shut(3, true), -11, 0, 0);
        w.due("shut(3, false): missing", w.x.shut(3, false), -11, 0, 0);
        w.sameAs(was);
        w.x.till(3, 1);
        Check.due("look(3, 8): open, as every new one", w.x.look(3, 8), 0);
    }
}
