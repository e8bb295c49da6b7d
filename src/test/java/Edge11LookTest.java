/** The edges of promise 11: look. */
public final class Edge11LookTest {
    public static void main(String[] args) {
        anEmptyTill();
        aFullTill();
        aShutTill();
        badNumbersAndAMissingTill();
        Check.done();
    }

    // Promise 11: "A TILL is HELD; COINS of a kind (0 to 4), all COINS (5), their worth (6), LIMIT (7), SHUT (8)."
    private static void anEmptyTill() {
        Watched w = new Watched();
        for (int t = 0; t <= 7; t += 7) {
            w.x.till(t, 0);
            for (int what = 0; what <= 8; what++) {
                w.due("look(" + t + ", " + what + ")", w.x.look(t, what), 0, 1, 0);
            }
        }
        w.deepest(1);
    }

    // Promise 11: "A TILL is HELD; COINS of a kind (0 to 4), all COINS (5), their worth (6), LIMIT (7), SHUT (8)."
    private static void aFullTill() {
        Watched w = new Watched();
        w.x.till(3, 200);
        int[] coins = {60, 50, 40, 30, 20};
        for (int kind = 0; kind <= 4; kind++) {
            w.x.put(3, kind, coins[kind]);
        }
        w.ready();
        for (int kind = 0; kind <= 4; kind++) {
            w.due("look(3, " + kind + ")", w.x.look(3, kind), coins[kind], 1, 0);
        }
        w.due("look(3, 5)", w.x.look(3, 5), 200, 1, 0);
        w.due("look(3, 6)", w.x.look(3, 6), 60 + 100 + 200 + 300 + 400, 1, 0);
        w.due("look(3, 7)", w.x.look(3, 7), 200, 1, 0);
        w.x.till(4, 200);
        w.x.put(4, 4, 200);
        w.ready();
        w.due("look(4, 6): the most", w.x.look(4, 6), 4000, 1, 0);
    }

    // Promise 11: "A TILL is HELD; COINS of a kind (0 to 4), all COINS (5), their worth (6), LIMIT (7), SHUT (8)."
    private static void aShutTill() {
        Watched w = new Watched();
        w.x.till(3, 7);
        w.x.put(3, 1, 6);
        w.x.shut(3, true);
        w.ready();
        int[] due = {0, 6, 0, 0, 0, 6, 12, 7, 1};
        for (int what = 0; what <= 8; what++) {
            w.due("look(3, " + what + ") is no failure", w.x.look(3, what), due[what], 1, 0);
        }
        w.x.shut(3, false);
        w.ready();
        w.due("look(3, 8)", w.x.look(3, 8), 0, 1, 0);
    }

    // Promise 11: "BAD; 1."
    private static void badNumbersAndAMissingTill() {
        Watched w = new Watched();
        w.x.till(3, 7);
        w.bad("look(-1, 0)", w.x.look(-1, 0));
        w.bad("look(8, 0)", w.x.look(8, 0));
        w.bad("look(3, -1)", w.x.look(3, -1));
        w.bad("look(3, 9)", w.x.look(3, 9));
        for (int far : Watched.FAR) {
            w.bad("look(" + far + ", 0)", w.x.look(far, 0));
            w.bad("look(3, " + far + ")", w.x.look(3, far));
        }
        for (int what = 0; what <= 8; what++) {
            w.due("look(4, " + what + "): missing", w.x.look(4, what), -11, 0, 0);
        }
        w.bad("look(4, 9): bad goes before missing", w.x.look(4, 9));
        w.deepest(0);
    }
}
