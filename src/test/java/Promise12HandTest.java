/** Promise 12: hand. */
public final class Promise12HandTest {
    public static void main(String[] args) {
        TillHolds x = new TillHolds();
        x.till(0, 0);
        int[] coins = {2, 3, 4, 5, 6};
        for (int kind = 0; kind <= 4; kind++) {
            x.put(0, kind, coins[kind]);
        }
        int held = x.count(0);
        for (int kind = 0; kind <= 4; kind++) {
            Check.due("hand(" + kind + ")", x.hand(kind), coins[kind]);
        }
        Check.due("hand(5)", x.hand(5), 20);
        Check.due("hand(6)", x.hand(6), 198);
        Check.due("hand(-1)", x.hand(-1), TillHolds.BAD);
        Check.due("hand(7)", x.hand(7), TillHolds.BAD);
        Check.due("hand(8)", x.hand(8), TillHolds.BAD);
        Check.due("hand(max)", x.hand(Integer.MAX_VALUE), TillHolds.BAD);
        Check.due("count(0): nothing is held", x.count(0), held);
        for (int call = 0; call < 400; call++) {
            x.put(0, 4, 200);
        }
        Check.due("hand(5): there is no limit", x.hand(5), 80020);
        Check.due("hand(6)", x.hand(6), 1600198);
        Check.done();
    }
}
