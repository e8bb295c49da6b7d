/** The edges of how a till pays: shown by take, which does nothing else. */
public final class EdgePayTest {
    public static void main(String[] args) {
        aShutTillPaysNothing();
        asManyAsItHas();
        asManyAsStillFit();
        noneGoWhereSomeWorthIsLeft();
        aWorthOfNothing();
        theyComeToTheHand();
        Check.done();
    }

    // Terms: "TO PAY a worth from a TILL: FAILURE 2, if it is SHUT"
    private static void aShutTillPaysNothing() {
        Watched w = new Watched();
        w.x.till(4, 9);
        w.x.put(4, 0, 3);
        w.x.shut(4, true);
        String was = w.seen();
        w.due("take(4, 3): all that it has", w.x.take(4, 3), -12, 1, 1);
        w.due("take(4, 0): nothing", w.x.take(4, 0), -12, 1, 1);
        w.due("take(4, 4): more than it has", w.x.take(4, 4), -12, 1, 1);
        w.sameAs(was);
        w.x.shut(4, false);
        w.ready();
        w.due("take(4, 3): it is open again", w.x.take(4, 3), 3, 1, 0);
        w.hand(3, 0, 0, 0, 0);
    }

    // Terms: "of the kinds, the greatest first, as many COINS as it has and as still fit"
    private static void asManyAsItHas() {
        Watched w = new Watched();
        w.x.till(4, 200);
        w.x.put(4, 4, 1);
        w.x.put(4, 3, 2);
        w.x.put(4, 2, 3);
        w.x.put(4, 1, 4);
        w.x.put(4, 0, 5);
        w.ready();
        w.due("take(4, 67): all but one coin of worth 1", w.x.take(4, 67), 14, 1, 0);
        w.hand(4, 4, 3, 2, 1);
        w.till(4, 1, 0, 0, 0, 0);
        w.due("take(4, 1): the last one", w.x.take(4, 1), 1, 1, 0);
        w.till(4, 0, 0, 0, 0, 0);
    }

    // Terms: "of the kinds, the greatest first, as many COINS as it has and as still fit"
    private static void asManyAsStillFit() {
        int[][] paid = {{1, 1}, {2, 1}, {3, 2}, {4, 2}, {5, 1}, {6, 2}, {7, 2}, {9, 3}, {10, 1}, {11, 2},
            {19, 4}, {20, 1}, {21, 2}, {39, 5}, {40, 2}, {60, 3}, {61, 4}};
        for (int[] worthAndCoins : paid) {
            Watched w = new Watched();
            w.x.till(4, 200);
            for (int kind = 0; kind <= 4; kind++) {
                w.x.put(4, kind, 3);
            }
            w.ready();
            int worth = worthAndCoins[0];
            w.due("take(4, " + worth + ")", w.x.take(4, worth), worthAndCoins[1], 1, 0);
            Check.due("hand(6)", w.x.hand(6), worth);
            Check.due("look(4, 6)", w.x.look(4, 6), 114 - worth);
        }
    }

    // Terms: "if some worth is left, FAILURE 3, and none go"
    private static void noneGoWhereSomeWorthIsLeft() {
        Watched w = new Watched();
        w.x.till(0, 200);
        w.x.put(0, 1, 3);
        w.x.put(0, 2, 1);
        w.x.till(1, 200);
        w.x.put(1, 4, 200);
        w.x.till(2, 0);
        String was = w.seen();
        w.due("take(0, 1): less than its least coin", w.x.take(0, 1), -13, 1, 1);
        w.due("take(0, 6): three of 2 would do, but 5 goes first", w.x.take(0, 6), -13, 1, 1);
        w.due("take(0, 8): 5 and 2, and 1 is left", w.x.take(0, 8), -13, 1, 1);
        w.due("take(0, 12): one more than all", w.x.take(0, 12), -13, 1, 1);
        w.due("take(1, 4001): one more than any till can have", w.x.take(1, 4001), -13, 1, 1);
        w.due("take(1, 3999): one less", w.x.take(1, 3999), -13, 1, 1);
        w.due("take(2, 1): it has none", w.x.take(2, 1), -13, 1, 1);
        w.sameAs(was);
        w.due("take(0, 11): all", w.x.take(0, 11), 4, 1, 0);
        w.due("take(1, 4000): all", w.x.take(1, 4000), 200, 1, 0);
        w.hand(0, 3, 1, 0, 200);
    }

    // Terms: "if some worth is left, FAILURE 3, and none go"
    private static void aWorthOfNothing() {
        Watched w = new Watched();
        w.x.till(2, 0);
        w.x.till(3, 9);
        w.x.put(3, 3, 1);
        String was = w.seen();
        w.due("take(2, 0): of an empty one no worth is left", w.x.take(2, 0), 0, 1, 0);
        w.due("take(3, 0)", w.x.take(3, 0), 0, 1, 0);
        w.sameAs(was);
    }

    // Terms: "else they come to THE HAND."
    private static void theyComeToTheHand() {
        Watched w = new Watched();
        w.x.till(3, 9);
        w.x.put(3, 3, 2);
        w.x.put(3, 0, 1);
        w.ready();
        w.due("take(3, 10)", w.x.take(3, 10), 1, 1, 0);
        w.hand(0, 0, 0, 1, 0);
        w.due("take(3, 11): to those that are there", w.x.take(3, 11), 2, 1, 0);
        w.hand(1, 0, 0, 2, 0);
        w.till(3, 0, 0, 0, 0, 0);
    }
}
