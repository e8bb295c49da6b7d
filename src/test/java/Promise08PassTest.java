/** Promise 8: pass. */
public final class Promise08PassTest {
    public static void main(String[] args) {
        coinsPass();
        rowsOfOne();
        oneTillTwice();
        failuresWithBack();
        failuresWithoutBack();
        backOfTheSameTillTwice();
        badNumbers();
        Check.done();
    }

    /** Each till n of 0 to 3 has coins that pay 10 in its own way; 4 has no room; 5 is shut. */
    private static TillHolds made() {
        TillHolds x = new TillHolds();
        for (int t = 0; t <= 3; t++) {
            x.till(t, 40);
        }
        x.put(0, 3, 1);
        x.put(1, 2, 2);
        x.put(2, 1, 5);
        x.put(3, 0, 10);
        x.till(4, 0);
        x.till(5, 10);
        x.put(5, 3, 1);
        x.shut(5, true);
        x.till(6, 10);
        x.put(6, 4, 2);
        x.take(6, 20);
        return x;
    }

    private static void coinsPass() {
        TillHolds x = made();
        int held = x.count(0);
        Check.due("pass(3210, 10, false)", x.pass(3210, 10, false), 4);
        Check.due("count(0)", x.count(0), held + 4);
        Check.due("count(1)", x.count(1), 0);
        Check.due("count(2)", x.count(2), 4);
        Check.due("look(3, 5): the first only pays", x.look(3, 5), 0);
        Check.due("look(2, 0): the coins that were laid are there", x.look(2, 0), 10);
        Check.due("look(2, 1): the greatest are paid on", x.look(2, 1), 0);
        Check.due("look(1, 1)", x.look(1, 1), 5);
        Check.due("look(0, 2)", x.look(0, 2), 2);
        Check.due("look(0, 3): the last pays nothing", x.look(0, 3), 1);
        Check.due("hand(6): only what was there before", x.hand(6), 20);
        Check.due("pass(12, 0, true)", x.pass(12, 0, true), 2);
        Check.due("pass(10, 0, false)", x.pass(10, 0, false), 2);
        Check.due("pass(100, 0, false)", x.pass(100, 0, false), 3);
        Check.due("pass(10000, 0, true)", x.pass(10000, 0, true), 5);
        Check.due("pass(100000, 0, false)", x.pass(100000, 0, false), 6);
        Check.due("count(2)", x.count(2), 6);
    }

    private static void rowsOfOne() {
        TillHolds x = made();
        Check.due("pass(0, 10, true): the first pays", x.pass(0, 10, true), 1);
        Check.due("look(0, 5)", x.look(0, 5), 0);
        Check.due("hand(3): it stays in the hand", x.hand(3), 1);
        Check.due("pass(7, 0, true)", x.pass(7, 0, true), -11);
        Check.due("pass(5, 0, true)", x.pass(5, 0, true), -12);
        Check.due("pass(0, 1, false)", x.pass(0, 1, false), -13);
        Check.due("hand(6)", x.hand(6), 30);
    }

    private static void oneTillTwice() {
        TillHolds x = made();
        Check.due("pass(111111, 10, false)", x.pass(111111, 10, false), 6);
        Check.due("look(1, 6)", x.look(1, 6), 10);
        Check.due("count(2)", x.count(2), 6);
        Check.due("pass(212, 10, false)", x.pass(212, 10, false), 3);
        Check.due("look(1, 1)", x.look(1, 1), 5);
        Check.due("look(2, 2)", x.look(2, 2), 2);
    }

    private static void failuresWithBack() {
        TillHolds x = made();
        String was = Check.seen(x);
        int held = x.count(0);
        Check.due("pass(32107, 10, true): the last is missing", x.pass(32107, 10, true), -11);
        Check.due("count(0)", x.count(0), held + 4);
        Check.due("count(1)", x.count(1), 4);
        Check.due("count(2)", x.count(2), 4);
        Check.due("pass(32105, 10, true): shut", x.pass(32105, 10, true), -12);
        Check.due("count(1)", x.count(1), 9);
        Check.due("pass(3210, 6, true): 1 pays a 5 first, and is short", x.pass(3210, 6, true), -13);
        Check.due("count(1)", x.count(1), 12);
        Check.due("pass(3214, 10, true): too much", x.pass(3214, 10, true), -14);
        Check.due("pass(3246, 10, true): too much in the middle", x.pass(3246, 10, true), -14);
        Check.due("pass(64, 20, true): the greatest kind", x.pass(64, 20, true), -14);
        Check.due("pass(7123, 10, true): the first is missing", x.pass(7123, 10, true), -11);
        Check.holds("all is as it was", Check.seen(x).equals(was));
    }

    private static void failuresWithoutBack() {
        TillHolds x = made();
        int held = x.count(0);
        Check.due("pass(3214, 10, false)", x.pass(3214, 10, false), -14);
        Check.due("count(0)", x.count(0), held + 4);
        Check.due("count(1)", x.count(1), 4);
        Check.due("look(3, 5)", x.look(3, 5), 0);
        Check.due("look(2, 0)", x.look(2, 0), 10);
        Check.due("look(1, 1)", x.look(1, 1), 5);
        Check.due("hand(2): what was paid last stays in the hand", x.hand(2), 2);
        Check.due("hand(6)", x.hand(6), 30);
        x = made();
        Check.due("pass(210, 6, false): 1 is laid, and then short", x.pass(210, 6, false), -13);
        Check.due("look(2, 1)", x.look(2, 1), 2);
        Check.due("look(1, 1)", x.look(1, 1), 3);
        Check.due("look(1, 2)", x.look(1, 2), 2);
        Check.due("hand(6)", x.hand(6), 20);
    }

    private static void backOfTheSameTillTwice() {
        TillHolds x = new TillHolds();
        x.till(1, 2);
        x.till(2, 50);
        x.put(1, 2, 2);
        x.put(2, 3, 1);
        String was = Check.seen(x);
        Check.due("pass(1217, 10, true)", x.pass(1217, 10, true), -11);
        Check.holds("the outer hold of 1 is left last: all is as it was", Check.seen(x).equals(was));
        Check.due("pass(1217, 10, false)", x.pass(1217, 10, false), -11);
        Check.due("look(1, 5)", x.look(1, 5), 0);
        Check.due("look(2, 2)", x.look(2, 2), 2);
        Check.due("look(2, 3)", x.look(2, 3), 0);
        Check.due("hand(3)", x.hand(3), 1);
    }

    private static void badNumbers() {
        TillHolds x = made();
        String was = Check.seen(x);
        int[] rows = {-1, 8, 9, 80, 18, 19, 181, 777778, 777787, 787777, 877777, 778000, 1000000, 1111111,
            Integer.MIN_VALUE, Integer.MAX_VALUE};
        for (int row : rows) {
            Check.due("pass(" + row + ", 0, true)", x.pass(row, 0, true), TillHolds.BAD);
        }
        Check.due("pass(0, -1, true)", x.pass(0, -1, true), TillHolds.BAD);
        Check.due("pass(0, 10001, true)", x.pass(0, 10001, true), TillHolds.BAD);
        Check.due("pass(78, 0, true): bad goes before missing", x.pass(78, 0, true), TillHolds.BAD);
        Check.due("pass(0, 10000, true)", x.pass(0, 10000, true), -13);
        Check.due("pass(777777, 0, true)", x.pass(777777, 0, true), -11);
        x.till(7, 3);
        Check.due("pass(777777, 0, true)", x.pass(777777, 0, true), 6);
        x.drop(7);
        Check.holds("all is as it was", Check.seen(x).equals(was));
    }
}
