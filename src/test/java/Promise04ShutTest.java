/** Promise 4: shut. */
public final class Promise04ShutTest {
    public static void main(String[] args) {
        TillHolds x = new TillHolds();
        Check.due("shut(0, true) of a missing one", x.shut(0, true), -11);
        Check.due("count(0): a missing one is not held", x.count(0), 0);
        x.till(0, 10);
        x.till(1, 10);
        Check.due("look(0, 8): no shutting came before", x.look(0, 8), 0);
        Check.due("shut(0, true)", x.shut(0, true), 0);
        Check.due("look(0, 8)", x.look(0, 8), 1);
        Check.due("look(1, 8)", x.look(1, 8), 0);
        Check.due("shut(0, true) again", x.shut(0, true), 1);
        Check.due("put(0, 0, 1)", x.put(0, 0, 1), -12);
        Check.due("shut(0, false)", x.shut(0, false), 1);
        Check.due("look(0, 8)", x.look(0, 8), 0);
        Check.due("shut(0, false) again", x.shut(0, false), 0);
        Check.due("put(0, 0, 1)", x.put(0, 0, 1), 1);
        int held = x.count(0);
        int left = x.count(1);
        x.shut(1, true);
        x.shut(1, true);
        Check.due("count(0): a hold each", x.count(0), held + 2);
        Check.due("count(1)", x.count(1), left);
        Check.due("shut(-1, true)", x.shut(-1, true), TillHolds.BAD);
        Check.due("shut(8, false)", x.shut(8, false), TillHolds.BAD);
        Check.due("count(0): nothing is held where a number is bad", x.count(0), held + 2);
        Check.done();
    }
}
