/** Promise 3: drop. */
public final class Promise03DropTest {
    public static void main(String[] args) {
        TillHolds x = new TillHolds();
        Check.due("drop(0) of a missing one", x.drop(0), 0);
        x.till(0, 10);
        x.till(7, 10);
        x.put(0, 2, 4);
        x.shut(0, true);
        int held = x.count(0);
        Check.due("drop(0)", x.drop(0), 1);
        Check.due("drop(0) again", x.drop(0), 0);
        Check.due("drop(7)", x.drop(7), 1);
        Check.due("count(0): drop holds nothing", x.count(0), held);
        Check.due("count(1): drop of a missing one is no failure", x.count(1), 0);
        Check.due("count(3)", x.count(3), 0);
        Check.due("look(0, 5)", x.look(0, 5), -11);
        Check.due("hand(5): the coins are gone", x.hand(5), 0);
        x.till(0, 10);
        Check.due("look(0, 5): they do not come again", x.look(0, 5), 0);
        Check.due("look(0, 8)", x.look(0, 8), 0);
        Check.due("drop(-1)", x.drop(-1), TillHolds.BAD);
        Check.due("drop(8)", x.drop(8), TillHolds.BAD);
        Check.due("count(3)", x.count(3), 1);
        Check.done();
    }
}
