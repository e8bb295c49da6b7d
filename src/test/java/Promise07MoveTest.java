/** Promise 7: move. */
public final class Promise07MoveTest {
    public static void main(String[] args) {
        coinsMove();
        withinOneTill();
        failuresOfTheFirst();
        failuresOfTheSecondWithBack();
        failuresOfTheSecondWithoutBack();
        badNumbers();
        Check.done();
    }

    /** Till 0 is full with five coins of worth 14; till 1 has room for two, and till 2 is shut. */
    private static TillHolds made() {
        TillHolds x = new TillHolds();
        x.till(0, 5);
        x.till(1, 2);
        x.till(2, 50);
        x.put(0, 0, 1);
        x.put(0, 1, 1);
        x.put(0, 2, 2);
        x.put(0, 0, 1);
        x.shut(2, true);
        x.till(7, 200);
        x.put(7, 3, 9);
        x.take(7, 40);
        return x;
    }

    private static void coinsMove() {
        TillHolds x = made();
        int held = x.count(0);
        Check.due("move(0, 1, 7, true)", x.move(0, 1, 7, true), 2);
        Check.due("count(0)", x.count(0), held + 2);
        Check.due("count(1)", x.count(1), 0);
        Check.due("count(2)", x.count(2), 2);
        Check.due("look(1, 1)", x.look(1, 1), 1);
        Check.due("look(1, 2)", x.look(1, 2), 1);
        Check.due("look(0, 6)", x.look(0, 6), 7);
        Check.due("hand(6): the hand's other coins stay", x.hand(6), 40);
        Check.due("move(0, 1, 0, false)", x.move(0, 1, 0, false), 0);
        Check.due("move(1, 0, 7, false)", x.move(1, 0, 7, false), 2);
        Check.due("look(0, 6)", x.look(0, 6), 14);
        Check.due("look(1, 5)", x.look(1, 5), 0);
    }

    private static void withinOneTill() {
        TillHolds x = made();
        int held = x.count(0);
        Check.due("move(0, 0, 14, false): a full one", x.move(0, 0, 14, false), 5);
        Check.due("count(0)", x.count(0), held + 2);
        Check.due("count(2): one till twice", x.count(2), 2);
        Check.due("look(0, 6)", x.look(0, 6), 14);
        Check.due("hand(6)", x.hand(6), 40);
    }

    private static void failuresOfTheFirst() {
        TillHolds x = made();
        int held = x.count(0);
        Check.due("move(5, 0, 1, true) of a missing one", x.move(5, 0, 1, true), -11);
        Check.due("count(0)", x.count(0), held);
        Check.due("move(2, 0, 0, true) of a shut one", x.move(2, 0, 0, true), -12);
        Check.due("move(2, 5, 0, true): shut, before the other is missed", x.move(2, 5, 0, true), -12);
        Check.due("move(0, 1, 3000, true) of a short one", x.move(0, 1, 3000, true), -13);
        Check.due("move(0, 5, 15, false): short, before the other is missed", x.move(0, 5, 15, false), -13);
        Check.due("count(0): the other was not held", x.count(0), held + 4);
        Check.due("count(1)", x.count(1), 4);
        Check.due("count(2)", x.count(2), 1);
        Check.due("look(0, 6)", x.look(0, 6), 14);
        Check.due("hand(6)", x.hand(6), 40);
    }

    private static void failuresOfTheSecondWithBack() {
        TillHolds x = made();
        String was = Check.seen(x);
        int held = x.count(0);
        Check.due("move(0, 5, 7, true) to a missing one", x.move(0, 5, 7, true), -11);
        Check.due("count(0)", x.count(0), held + 1);
        Check.due("count(1)", x.count(1), 1);
        Check.due("count(2)", x.count(2), 1);
        Check.due("move(0, 2, 7, true) to a shut one", x.move(0, 2, 7, true), -12);
        Check.due("count(0)", x.count(0), held + 3);
        Check.due("count(1): both are left", x.count(1), 3);
        Check.due("move(0, 2, 0, true): nothing to a shut one", x.move(0, 2, 0, true), -12);
        Check.due("move(0, 1, 14, true) to a full one", x.move(0, 1, 14, true), -14);
        Check.holds("all is as it was, the full till too", Check.seen(x).equals(was));
    }

    private static void failuresOfTheSecondWithoutBack() {
        TillHolds x = made();
        Check.due("move(0, 5, 2, false) to a missing one", x.move(0, 5, 2, false), -11);
        Check.due("hand(1)", x.hand(1), 1);
        Check.due("move(0, 2, 5, false) to a shut one", x.move(0, 2, 5, false), -12);
        Check.due("hand(2)", x.hand(2), 1);
        Check.due("move(0, 1, 7, false) to a full one", x.move(0, 1, 7, false), -14);
        Check.due("hand(6)", x.hand(6), 54);
        Check.due("look(0, 5)", x.look(0, 5), 0);
        Check.due("look(1, 5)", x.look(1, 5), 0);
        Check.due("count(1)", x.count(1), 5);
    }

    private static void badNumbers() {
        TillHolds x = made();
        int held = x.count(0);
        Check.due("move(-1, 0, 1, true)", x.move(-1, 0, 1, true), TillHolds.BAD);
        Check.due("move(8, 0, 1, true)", x.move(8, 0, 1, true), TillHolds.BAD);
        Check.due("move(0, -1, 1, true)", x.move(0, -1, 1, true), TillHolds.BAD);
        Check.due("move(0, 8, 1, true)", x.move(0, 8, 1, true), TillHolds.BAD);
        Check.due("move(0, 1, -1, true)", x.move(0, 1, -1, true), TillHolds.BAD);
        Check.due("move(0, 1, 10001, true)", x.move(0, 1, 10001, true), TillHolds.BAD);
        Check.due("move(5, 8, 1, true): bad goes before missing", x.move(5, 8, 1, true), TillHolds.BAD);
        Check.due("move(0, 1, 10000, true)", x.move(0, 1, 10000, true), -13);
        Check.due("count(0)", x.count(0), held + 1);
    }
}
