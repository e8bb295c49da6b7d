/** The edges of promise 12: hand. */
public final class Edge12HandTest {
    public static void main(String[] args) {
        anEmptyHand();
        eachKind();
        coinsComeAndGo();
        badNumbers();
        Check.done();
    }

    // Promise 12: "COINS of a kind (0 to 4) in THE HAND, all (5), their worth (6)."
    private static void anEmptyHand() {
        Watched w = new Watched();
        for (int what = 0; what <= 6; what++) {
            w.due("hand(" + what + ")", w.x.hand(what), 0, 0, 0);
        }
    }

    // Promise 12: "COINS of a kind (0 to 4) in THE HAND, all (5), their worth (6)."
    private static void eachKind() {
        int[] worths = {1, 2, 5, 10, 20};
        for (int kind = 0; kind <= 4; kind++) {
            Watched w = new Watched();
            w.x.till(0, 0);
            w.x.put(0, kind, 3);
            w.ready();
            for (int other = 0; other <= 4; other++) {
                w.due("hand(" + other + ")", w.x.hand(other), other == kind ? 3 : 0, 0, 0);
            }
            w.due("hand(5)", w.x.hand(5), 3, 0, 0);
            w.due("hand(6)", w.x.hand(6), 3 * worths[kind], 0, 0);
        }
    }

    // Promise 12: "COINS of a kind (0 to 4) in THE HAND, all (5), their worth (6)."
    private static void coinsComeAndGo() {
        Watched w = new Watched();
        w.x.till(0, 9);
        w.x.till(1, 9);
        w.x.put(0, 2, 4);
        w.hand(0, 0, 0, 0, 0);
        w.x.take(0, 10);
        w.hand(0, 0, 2, 0, 0);
        w.x.move(0, 1, 5, true);
        w.hand(0, 0, 2, 0, 0);
        w.x.share(0, 1, 2);
        w.x.pass(10, 5, true);
        w.hand(0, 0, 2, 0, 0);
        w.x.till(0, 9);
        w.x.drop(1);
        w.hand(0, 0, 2, 0, 0);
    }

    // Promise 12: "BAD."
    private static void badNumbers() {
        Watched w = new Watched();
        w.bad("hand(-1)", w.x.hand(-1));
        w.bad("hand(7)", w.x.hand(7));
        w.bad("hand(8)", w.x.hand(8));
        for (int far : Watched.FAR) {
            w.bad("hand(" + far + ")", w.x.hand(far));
        }
    }
}
