/** Promise 10: first. */
public final class Promise10FirstTest {
    public static void main(String[] args) {
        TillHolds x = new TillHolds();
        Check.due("first(0): none is there", x.first(0), TillHolds.NONE);
        Check.due("count(0)", x.count(0), 0);
        x.till(1, 50);
        x.till(3, 50);
        x.till(5, 50);
        x.till(7, 50);
        x.put(1, 4, 1);
        x.put(3, 1, 3);
        x.put(5, 1, 2);
        x.put(7, 0, 6);
        Check.due("first(20)", x.first(20), 1);
        Check.due("count(0): those behind are not held", x.count(0), 5);
        Check.due("first(6)", x.first(6), 3);
        Check.due("count(0): those ahead are held", x.count(0), 7);
        Check.due("first(5): greatest first leaves a worth in 3 and 5", x.first(5), 7);
        Check.due("count(0)", x.count(0), 11);
        Check.due("first(7)", x.first(7), TillHolds.NONE);
        Check.due("first(10000)", x.first(10000), TillHolds.NONE);
        Check.due("count(0)", x.count(0), 19);
        Check.due("count(1): that one could not is no failure", x.count(1), 0);
        Check.due("count(2): one behind the other", x.count(2), 1);
        Check.due("first(0)", x.first(0), 1);
        x.shut(1, true);
        Check.due("first(0): a shut one is passed over", x.first(0), 3);
        Check.due("count(0): but held", x.count(0), 23);
        x.drop(3);
        Check.due("first(4)", x.first(4), 5);
        Check.due("look(5, 6): nothing goes", x.look(5, 6), 4);
        Check.due("hand(5)", x.hand(5), 0);
        int held = x.count(0);
        Check.due("first(-1)", x.first(-1), TillHolds.BAD);
        Check.due("first(10001)", x.first(10001), TillHolds.BAD);
        Check.due("first(min)", x.first(Integer.MIN_VALUE), TillHolds.BAD);
        Check.due("count(0)", x.count(0), held);
        Check.done();
    }
}
