/** Promise 2: till. */
public final class Promise02TillTest {
    public static void main(String[] args) {
        newTillIsEmptyAndOpen();
        newTillStandsInPlaceOfWhatWas();
        badNumbers();
        Check.done();
    }

    private static void newTillIsEmptyAndOpen() {
        TillHolds x = new TillHolds();
        int[] limits = {0, 1, 200};
        for (int limit : limits) {
            Check.due("till(7, " + limit + ")", x.till(7, limit), 1);
            Check.due("look(7, 7)", x.look(7, 7), limit);
            Check.due("look(7, 5)", x.look(7, 5), 0);
            Check.due("look(7, 8)", x.look(7, 8), 0);
        }
        Check.due("count(3)", x.count(3), 1);
        Check.due("till(0, 0)", x.till(0, 0), 1);
        Check.due("count(3)", x.count(3), 2);
    }

    private static void newTillStandsInPlaceOfWhatWas() {
        TillHolds x = new TillHolds();
        x.till(4, 20);
        for (int kind = 0; kind <= 4; kind++) {
            x.put(4, kind, 4);
        }
        x.take(4, 40);
        x.shut(4, true);
        int held = x.count(0);
        Check.due("till(4, 9)", x.till(4, 9), 1);
        Check.due("count(0): till holds nothing", x.count(0), held);
        for (int kind = 0; kind <= 4; kind++) {
            Check.due("look(4, " + kind + ")", x.look(4, kind), 0);
        }
        Check.due("look(4, 7)", x.look(4, 7), 9);
        Check.due("look(4, 8)", x.look(4, 8), 0);
        Check.due("hand(5): the hand keeps its coins", x.hand(5), 2);
    }

    private static void badNumbers() {
        TillHolds x = new TillHolds();
        x.till(3, 30);
        Check.due("till(-1, 5)", x.till(-1, 5), TillHolds.BAD);
        Check.due("till(8, 5)", x.till(8, 5), TillHolds.BAD);
        Check.due("till(3, -1)", x.till(3, -1), TillHolds.BAD);
        Check.due("till(3, 201)", x.till(3, 201), TillHolds.BAD);
        Check.due("till(min, max)", x.till(Integer.MIN_VALUE, Integer.MAX_VALUE), TillHolds.BAD);
        Check.due("look(3, 7)", x.look(3, 7), 30);
        Check.due("count(3)", x.count(3), 1);
    }
}
