/** Promise 1: a new object. */
public final class Promise01NewObjectTest {
    public static void main(String[] args) {
        tillsAreMissing();
        handIsEmpty();
        objectsAreApart();
        Check.done();
    }

    private static void tillsAreMissing() {
        TillHolds x = new TillHolds();
        for (int t = 0; t < 8; t++) {
            Check.due("look(" + t + ", 5)", x.look(t, 5), -11);
            Check.due("drop(" + t + ")", x.drop(t), 0);
        }
        for (int what = 0; what <= 3; what++) {
            Check.due("count(" + what + ")", x.count(what), 0);
        }
        Check.due("first(0)", x.first(0), TillHolds.NONE);
    }

    private static void handIsEmpty() {
        TillHolds x = new TillHolds();
        for (int what = 0; what <= 6; what++) {
            Check.due("hand(" + what + ")", x.hand(what), 0);
        }
    }

    private static void objectsAreApart() {
        TillHolds x = new TillHolds();
        x.till(0, 10);
        x.put(0, 4, 3);
        x.take(0, 20);
        TillHolds y = new TillHolds();
        Check.due("look(0, 5) of another", y.look(0, 5), -11);
        Check.due("hand(5) of another", y.hand(5), 0);
        Check.due("count(0) of another", y.count(0), 0);
        Check.due("look(0, 5) of the one", x.look(0, 5), 2);
    }
}
