/** Promise 9: share. */
public final class Promise09ShareTest {
    public static void main(String[] args) {
        halfTheDifferenceGoes();
        withinOneTill();
        failures();
        badNumbers();
        Check.done();
    }

    private static void halfTheDifferenceGoes() {
        TillHolds x = new TillHolds();
        x.till(0, 50);
        x.till(1, 50);
        x.put(0, 3, 9);
        x.put(0, 1, 4);
        x.put(1, 3, 2);
        Check.due("share(0, 1, 3): 7 is the difference", x.share(0, 1, 3), 3);
        Check.due("look(0, 3)", x.look(0, 3), 6);
        Check.due("look(1, 3)", x.look(1, 3), 5);
        Check.due("look(0, 1): no other kind goes", x.look(0, 1), 4);
        Check.due("count(2)", x.count(2), 2);
        Check.due("share(0, 1, 3): 1 is the difference", x.share(0, 1, 3), 0);
        Check.due("share(1, 0, 3)", x.share(1, 0, 3), 0);
        Check.due("share(1, 0, 1): from the second", x.share(1, 0, 1), 2);
        Check.due("look(1, 1)", x.look(1, 1), 2);
        x.take(0, 2);
        x.take(0, 2);
        x.put(1, 1, 5);
        Check.due("share(0, 1, 1): from the second, cut towards 0", x.share(0, 1, 1), 3);
        Check.due("look(0, 1)", x.look(0, 1), 3);
        Check.due("look(1, 1)", x.look(1, 1), 4);
        Check.due("share(0, 1, 4): none there", x.share(0, 1, 4), 0);
        Check.due("hand(6)", x.hand(6), 4);
    }

    private static void withinOneTill() {
        TillHolds x = new TillHolds();
        x.till(0, 4);
        x.put(0, 0, 4);
        Check.due("share(0, 0, 0)", x.share(0, 0, 0), 0);
        Check.due("look(0, 0)", x.look(0, 0), 4);
        Check.due("count(0)", x.count(0), 4);
        Check.due("count(2)", x.count(2), 2);
    }

    private static void failures() {
        TillHolds x = new TillHolds();
        x.till(0, 50);
        x.till(1, 3);
        x.put(0, 0, 9);
        x.put(1, 2, 1);
        Check.due("share(5, 0, 0): the first is missing", x.share(5, 0, 0), -11);
        Check.due("count(0): nothing was held", x.count(0), 2);
        Check.due("share(0, 5, 0): the second is missing", x.share(0, 5, 0), -11);
        Check.due("count(0)", x.count(0), 3);
        Check.due("count(1)", x.count(1), 1);
        Check.due("share(0, 1, 0): too much", x.share(0, 1, 0), -14);
        Check.due("count(1)", x.count(1), 3);
        Check.due("share(1, 0, 0): too much for the first", x.share(1, 0, 0), -14);
        Check.due("look(0, 0): none go", x.look(0, 0), 9);
        Check.due("look(1, 0)", x.look(1, 0), 0);
        x.shut(1, true);
        Check.due("share(0, 1, 0): shut goes before too much", x.share(0, 1, 0), -12);
        Check.due("share(1, 0, 4): none would go", x.share(1, 0, 4), -12);
        Check.due("share(1, 5, 0): missing, before it is seen that it is shut", x.share(1, 5, 0), -11);
        Check.due("count(1)", x.count(1), 10);
        x.shut(1, false);
        x.take(0, 2);
        x.take(0, 2);
        Check.due("share(0, 1, 0): just up to the limit", x.share(0, 1, 0), 2);
        Check.due("look(1, 5)", x.look(1, 5), 3);
    }

    private static void badNumbers() {
        TillHolds x = new TillHolds();
        x.till(0, 50);
        x.till(7, 50);
        Check.due("share(-1, 0, 0)", x.share(-1, 0, 0), TillHolds.BAD);
        Check.due("share(8, 0, 0)", x.share(8, 0, 0), TillHolds.BAD);
        Check.due("share(0, -1, 0)", x.share(0, -1, 0), TillHolds.BAD);
        Check.due("share(0, 8, 0)", x.share(0, 8, 0), TillHolds.BAD);
        Check.due("share(0, 7, -1)", x.share(0, 7, -1), TillHolds.BAD);
        Check.due("share(0, 7, 5)", x.share(0, 7, 5), TillHolds.BAD);
        Check.due("share(5, 0, 5): bad goes before missing", x.share(5, 0, 5), TillHolds.BAD);
        Check.due("count(0)", x.count(0), 0);
        Check.due("share(0, 7, 4)", x.share(0, 7, 4), 0);
    }
}
