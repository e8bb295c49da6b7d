/** Promise 11: look. */
public final class Promise11LookTest {
    public static void main(String[] args) {
        TillHolds x = new TillHolds();
        x.till(6, 99);
        int[] coins = {7, 6, 5, 4, 3};
        for (int kind = 0; kind <= 4; kind++) {
            x.put(6, kind, coins[kind]);
        }
        for (int kind = 0; kind <= 4; kind++) {
            Check.due("look(6, " + kind + ")", x.look(6, kind), coins[kind]);
        }
        Check.due("look(6, 5)", x.look(6, 5), 25);
        Check.due("look(6, 6)", x.look(6, 6), 144);
        Check.due("look(6, 7)", x.look(6, 7), 99);
        Check.due("look(6, 8)", x.look(6, 8), 0);
        Check.due("count(0): a hold each", x.count(0), 14);
        x.shut(6, true);
        Check.due("look(6, 8)", x.look(6, 8), 1);
        Check.due("look(6, 6): of a shut one too", x.look(6, 6), 144);
        Check.due("count(1)", x.count(1), 0);
        Check.due("look(5, 8) of a missing one", x.look(5, 8), -11);
        Check.due("look(-1, 0)", x.look(-1, 0), TillHolds.BAD);
        Check.due("look(8, 0)", x.look(8, 0), TillHolds.BAD);
        Check.due("look(6, -1)", x.look(6, -1), TillHolds.BAD);
        Check.due("look(6, 9)", x.look(6, 9), TillHolds.BAD);
        Check.due("look(5, 9): bad goes before missing", x.look(5, 9), TillHolds.BAD);
        Check.due("count(0)", x.count(0), 17);
        Check.done();
    }
}
