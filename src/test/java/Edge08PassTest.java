/** The edges of promise 8: pass. */
public final class Edge08PassTest {
    public static void main(String[] args) {
        rowsOfOneToSixDigits();
        theHighestDigitIsTheFirst();
        theFirstPays();
        theFirstFails();
        whatWasPaidLastIsLaid();
        theNextOneFails();
        theNextOneIsFilledToItsLimit();
        theLastOneDoesNotPay();
        oneInTheMiddleIsShort();
        eachWithinTheOneAhead();
        nothingIsPassed();
        withBackEachTillHasItsCoins();
        withBackOneTillTwice();
        withBackTheHandHasWhatItHad();
        withoutBackAllStays();
        withoutBackOneTillTwice();
        howManyTills();
        badRows();
        badWorths();
        eachFailure();
        Check.done();
    }

    /** Tills 0 to 3 pay 10 each in its own way; 4 has room for one coin; 5 is shut; 6 is missing; the hand has some. */
    private static Watched made() {
        Watched w = new Watched();
        for (int t = 0; t <= 3; t++) {
            w.x.till(t, 20);
        }
        w.x.put(0, 3, 1);
        w.x.put(1, 2, 2);
        w.x.put(2, 1, 5);
        w.x.put(3, 0, 10);
        w.x.till(4, 1);
        w.x.put(4, 0, 2);
        w.x.till(5, 20);
        w.x.put(5, 3, 1);
        w.x.shut(5, true);
        w.ready();
        return w;
    }

    // Terms: "TO PASS a worth along a ROW of TILLS (the digits of a number, the highest first; 1 to 6 of them, from 0 to 7)"
    private static void rowsOfOneToSixDigits() {
        Watched w = new Watched();
        for (int t = 0; t <= 7; t++) {
            w.x.till(t, 0);
        }
        int[][] rows = {{0, 1}, {7, 1}, {10, 2}, {77, 2}, {100, 3}, {777, 3}, {1000, 4}, {7777, 4}, {10000, 5},
            {77777, 5}, {100000, 6}, {123456, 6}, {700000, 6}, {777777, 6}};
        for (int[] row : rows) {
            w.due("pass(" + row[0] + ", 0, true)", w.x.pass(row[0], 0, true), row[1], row[1], 0);
        }
        w.deepest(6);
    }

    // Terms: "TO PASS a worth along a ROW of TILLS (the digits of a number, the highest first; 1 to 6 of them, from 0 to 7)"
    private static void theHighestDigitIsTheFirst() {
        Watched w = made();
        w.due("pass(10, 10, false): from 1 to 0", w.x.pass(10, 10, false), 2, 2, 0);
        w.till(1, 0, 0, 0, 0, 0);
        w.till(0, 0, 0, 2, 1, 0);
        w.due("pass(1, 10, false): 1 alone", w.x.pass(1, 10, false), -13, 1, 1);
        w.due("pass(2001, 10, false)", w.x.pass(2001, 10, false), 4, 4, 0);
        w.till(2, 0, 0, 0, 0, 0);
        w.till(0, 0, 5, 2, 0, 0);
        w.till(1, 0, 0, 0, 1, 0);
        w.hand(2, 0, 0, 0, 0);
    }

    // Terms: "the first one is HELD, and PAYS"
    private static void theFirstPays() {
        Watched w = made();
        w.due("pass(0, 10, true): a row of one, all that it has", w.x.pass(0, 10, true), 1, 1, 0);
        w.till(0, 0, 0, 0, 0, 0);
        w.hand(2, 0, 0, 1, 0);
        w.due("pass(3, 9, false)", w.x.pass(3, 9, false), 1, 1, 0);
        w.till(3, 1, 0, 0, 0, 0);
        w.hand(11, 0, 0, 1, 0);
        w.deepest(1);
    }

    // Terms: "the first one is HELD, and PAYS"
    private static void theFirstFails() {
        Watched w = made();
        String was = w.seen();
        for (int back = 0; back <= 1; back++) {
            boolean is = back == 1;
            w.due("pass(6, 0): missing", w.x.pass(6, 0, is), -11, 0, 0);
            w.due("pass(60, 0): missing", w.x.pass(60, 0, is), -11, 0, 0);
            w.due("pass(5, 0): shut", w.x.pass(5, 0, is), -12, 1, 1);
            w.due("pass(56, 10): shut", w.x.pass(56, 10, is), -12, 1, 1);
            w.due("pass(0, 1): short", w.x.pass(0, 1, is), -13, 1, 1);
            w.due("pass(36, 11): short", w.x.pass(36, 11, is), -13, 1, 1);
        }
        w.sameAs(was);
        w.deepest(1);
    }

    // Terms: "within its HOLD the next one is HELD: the COINS that were PAID last are LAID there"
    private static void whatWasPaidLastIsLaid() {
        Watched w = made();
        w.due("pass(3210, 10, true)", w.x.pass(3210, 10, true), 4, 4, 0);
        w.till(3, 0, 0, 0, 0, 0);
        w.till(2, 10, 0, 0, 0, 0);
        w.till(1, 0, 5, 0, 0, 0);
        w.till(0, 0, 0, 2, 1, 0);
        w.hand(2, 0, 0, 0, 0);
        w.due("pass(20, 3, true): the hand's own coins of that kind stay", w.x.pass(20, 3, true), 2, 2, 0);
        w.till(2, 7, 0, 0, 0, 0);
        w.till(0, 3, 0, 2, 1, 0);
        w.hand(2, 0, 0, 0, 0);
    }

    // Terms: "within its HOLD the next one is HELD: the COINS that were PAID last are LAID there"
    private static void theNextOneFails() {
        Watched w = made();
        String was = w.seen();
        w.due("pass(36, 1, true): missing", w.x.pass(36, 1, true), -11, 1, 1);
        w.due("pass(35, 1, true): shut", w.x.pass(35, 1, true), -12, 2, 2);
        w.due("pass(34, 2, true): full", w.x.pass(34, 2, true), -14, 2, 2);
        w.due("pass(362, 1, true): missing, in the middle", w.x.pass(362, 1, true), -11, 1, 1);
        w.due("pass(352, 1, true): shut, in the middle", w.x.pass(352, 1, true), -12, 2, 2);
        w.due("pass(342, 2, true): full, though it would pay on", w.x.pass(342, 2, true), -14, 2, 2);
        w.sameAs(was);
        w.deepest(2);
    }

    // Terms: "within its HOLD the next one is HELD: the COINS that were PAID last are LAID there"
    private static void theNextOneIsFilledToItsLimit() {
        Watched w = made();
        w.due("pass(34, 2, true): one more than its limit", w.x.pass(34, 2, true), -14, 2, 2);
        w.due("pass(34, 1, true): just its limit", w.x.pass(34, 1, true), 2, 2, 0);
        w.till(4, 1, 0, 0, 0, 0);
        w.due("pass(34, 1, true): it is full", w.x.pass(34, 1, true), -14, 2, 2);
        w.due("pass(343, 1, true): full, before it pays", w.x.pass(343, 1, true), -14, 2, 2);
        w.due("pass(43, 1, true): it pays its only coin", w.x.pass(43, 1, true), 2, 2, 0);
        w.due("pass(343, 1, true): just its limit, and it pays on", w.x.pass(343, 1, true), 3, 3, 0);
        w.till(4, 0, 0, 0, 0, 0);
        w.till(3, 10, 0, 0, 0, 0);
        w.hand(2, 0, 0, 0, 0);
    }

    // Terms: "and, if it is not the last one, it PAYS"
    private static void theLastOneDoesNotPay() {
        Watched w = made();
        w.x.till(7, 20);
        w.ready();
        w.due("pass(27, 10, true): 7 keeps all", w.x.pass(27, 10, true), 2, 2, 0);
        w.till(7, 0, 5, 0, 0, 0);
        w.due("pass(371, 10, true): 7 pays what it had, and keeps what came", w.x.pass(371, 10, true), 3, 3, 0);
        w.till(7, 10, 0, 0, 0, 0);
        w.till(1, 0, 5, 2, 0, 0);
        w.due("pass(17, 5, false)", w.x.pass(17, 5, false), 2, 2, 0);
        w.till(7, 10, 0, 1, 0, 0);
        w.hand(2, 0, 0, 0, 0);
    }

    // Terms: "and, if it is not the last one, it PAYS"
    private static void oneInTheMiddleIsShort() {
        Watched w = made();
        String was = w.seen();
        w.due("pass(213, 6, true): 1 is laid 2, 2, 2 and would pay 5 first", w.x.pass(213, 6, true), -13, 2, 2);
        w.sameAs(was);
        w.due("pass(21, 6, true): as the last one it is not short", w.x.pass(21, 6, true), 2, 2, 0);
        w.till(1, 0, 3, 2, 0, 0);
        w.due("pass(213, 4, true): 2 and 2", w.x.pass(213, 4, true), 3, 3, 0);
        w.till(3, 10, 2, 0, 0, 0);
        w.hand(2, 0, 0, 0, 0);
    }

    // Terms: "and so on, each within the one ahead."
    private static void eachWithinTheOneAhead() {
        Watched w = made();
        w.due("pass(32, 1, false)", w.x.pass(32, 1, false), 2, 2, 0);
        w.deepest(2);
        w.due("pass(232323, 1, false)", w.x.pass(232323, 1, false), 6, 6, 0);
        w.deepest(6);
        w.till(3, 10, 0, 0, 0, 0);
        w.till(2, 0, 5, 0, 0, 0);
        Watched five = made();
        five.due("pass(333336, 1, false): the sixth is missing", five.x.pass(333336, 1, false), -11, 5, 5);
        five.deepest(5);
        Watched six = made();
        six.due("pass(333335, 1, false): the sixth is shut", six.x.pass(333335, 1, false), -12, 6, 6);
        six.deepest(6);
    }

    // Terms: "TO PASS a worth along a ROW of TILLS (the digits of a number, the highest first; 1 to 6 of them, from 0 to 7)"
    private static void nothingIsPassed() {
        Watched w = made();
        w.x.till(7, 0);
        String was = w.seen();
        w.due("pass(7, 0, true)", w.x.pass(7, 0, true), 1, 1, 0);
        w.due("pass(707, 0, false): to a limit of 0", w.x.pass(707, 0, false), 3, 3, 0);
        w.due("pass(705, 0, false): to a shut one", w.x.pass(705, 0, false), -12, 3, 3);
        w.due("pass(706, 0, false): to a missing one", w.x.pass(706, 0, false), -11, 2, 2);
        w.sameAs(was);
    }

    // Terms: "With BACK, when one FAILS: as each HOLD is left, the innermost first, its TILL has the COINS again that it had when it was begun"
    private static void withBackEachTillHasItsCoins() {
        Watched w = made();
        String was = w.seen();
        w.due("pass(32106, 10, true): missing", w.x.pass(32106, 10, true), -11, 4, 4);
        w.sameAs(was);
        w.due("pass(32105, 10, true): shut", w.x.pass(32105, 10, true), -12, 5, 5);
        w.sameAs(was);
        w.due("pass(3214, 10, true): full", w.x.pass(3214, 10, true), -14, 4, 4);
        w.sameAs(was);
        w.due("pass(3210, 6, true): short", w.x.pass(3210, 6, true), -13, 3, 3);
        w.sameAs(was);
        w.deepest(5);
    }

    // Terms: "With BACK, when one FAILS: as each HOLD is left, the innermost first, its TILL has the COINS again that it had when it was begun"
    private static void withBackOneTillTwice() {
        Watched w = made();
        String was = w.seen();
        w.due("pass(3236, 10, true): 3 is held twice", w.x.pass(3236, 10, true), -11, 3, 3);
        w.sameAs(was);
        w.due("pass(111116, 10, true): 1 is held five times", w.x.pass(111116, 10, true), -11, 5, 5);
        w.sameAs(was);
        w.due("pass(210126, 10, true): 1 and 2 are held twice", w.x.pass(210126, 10, true), -11, 5, 5);
        w.sameAs(was);
        w.due("pass(334, 2, true): full", w.x.pass(334, 2, true), -14, 3, 3);
        w.sameAs(was);
    }

    // Terms: "at last THE HAND, too, has what it had."
    private static void withBackTheHandHasWhatItHad() {
        Watched w = made();
        w.due("pass(6, 0, true): nothing was done", w.x.pass(6, 0, true), -11, 0, 0);
        w.hand(2, 0, 0, 0, 0);
        w.due("pass(36, 10, true): of the kind that it has", w.x.pass(36, 10, true), -11, 1, 1);
        w.hand(2, 0, 0, 0, 0);
        w.due("pass(2106, 10, true): of other kinds", w.x.pass(2106, 10, true), -11, 3, 3);
        w.hand(2, 0, 0, 0, 0);
        w.due("pass(0, 10, true): none fails", w.x.pass(0, 10, true), 1, 1, 0);
        w.hand(2, 0, 0, 1, 0);
    }

    // Terms: "Without it all stays as it is then."
    private static void withoutBackAllStays() {
        Watched w = made();
        w.due("pass(3216, 10, false): missing", w.x.pass(3216, 10, false), -11, 3, 3);
        w.till(3, 0, 0, 0, 0, 0);
        w.till(2, 10, 0, 0, 0, 0);
        w.till(1, 0, 5, 0, 0, 0);
        w.hand(2, 0, 2, 0, 0);
        w.due("pass(25, 3, false): shut", w.x.pass(25, 3, false), -12, 2, 2);
        w.till(2, 7, 0, 0, 0, 0);
        w.hand(5, 0, 2, 0, 0);
        w.due("pass(24, 2, false): full", w.x.pass(24, 2, false), -14, 2, 2);
        w.till(2, 5, 0, 0, 0, 0);
        w.till(4, 0, 0, 0, 0, 0);
        w.hand(7, 0, 2, 0, 0);
        w.due("pass(103, 2, false): 0 is laid, and is not short", w.x.pass(103, 2, false), 3, 3, 0);
        Watched laid = made();
        laid.due("pass(210, 6, false): 1 is laid, and then short", laid.x.pass(210, 6, false), -13, 2, 2);
        laid.till(2, 0, 2, 0, 0, 0);
        laid.till(1, 0, 3, 2, 0, 0);
        laid.hand(2, 0, 0, 0, 0);
    }

    // Terms: "Without it all stays as it is then."
    private static void withoutBackOneTillTwice() {
        Watched w = made();
        w.due("pass(2126, 10, false): 2 is held twice", w.x.pass(2126, 10, false), -11, 3, 3);
        w.till(1, 0, 5, 0, 0, 0);
        w.till(2, 0, 0, 0, 0, 0);
        w.hand(2, 0, 2, 0, 0);
    }

    // Promise 8: "TO PASS: how many TILLS there are in the ROW."
    private static void howManyTills() {
        Watched w = made();
        w.due("pass(3, 1, true)", w.x.pass(3, 1, true), 1, 1, 0);
        w.due("pass(33, 1, true): one till twice are two", w.x.pass(33, 1, true), 2, 2, 0);
        w.due("pass(300003, 0, true)", w.x.pass(300003, 0, true), 6, 6, 0);
    }

    // Promise 8: "BAD: digits that are 8 or 9, a number that is below 0 or above 777777 (0 is the ROW of TILL 0)"
    private static void badRows() {
        Watched w = made();
        w.x.till(7, 0);
        String was = w.seen();
        int[] rows = {-1, 8, 9, 18, 19, 80, 90, 778, 779, 8000, 77877, 77977, 177778, 777769, 777778, 777780,
            778777, 800000, 999999, 1000000, 1111111, -7, -777777, Integer.MIN_VALUE, Integer.MAX_VALUE};
        for (int row : rows) {
            w.bad("pass(" + row + ", 0, true)", w.x.pass(row, 0, true));
            w.bad("pass(" + row + ", 0, false)", w.x.pass(row, 0, false));
        }
        w.due("pass(777777, 0, true): the greatest", w.x.pass(777777, 0, true), 6, 6, 0);
        w.due("pass(0, 0, true): the row of till 0", w.x.pass(0, 0, true), 1, 1, 0);
        w.sameAs(was);
        w.x.drop(0);
        w.ready();
        w.due("pass(0, 0, true): till 0 is missing", w.x.pass(0, 0, true), -11, 0, 0);
    }

    // Promise 6: "A TILL is HELD, and PAYS a worth (0 to 10000)"
    private static void badWorths() {
        Watched w = made();
        String was = w.seen();
        w.bad("pass(0, -1, true)", w.x.pass(0, -1, true));
        w.bad("pass(0, 10001, false)", w.x.pass(0, 10001, false));
        for (int far : Watched.FAR) {
            w.bad("pass(0, " + far + ", true)", w.x.pass(0, far, true));
        }
        w.due("pass(0, 10000, true): the greatest", w.x.pass(0, 10000, true), -13, 1, 1);
        w.due("pass(0, 0, true): the least", w.x.pass(0, 0, true), 1, 1, 0);
        w.sameAs(was);
    }

    // Promise 8: "1 to 4."
    private static void eachFailure() {
        Watched w = made();
        String was = w.seen();
        w.due("pass(126, 10, true)", w.x.pass(126, 10, true), -11, 2, 2);
        w.due("pass(125, 10, true)", w.x.pass(125, 10, true), -12, 3, 3);
        w.due("pass(123, 20, true)", w.x.pass(123, 20, true), -13, 1, 1);
        w.due("pass(124, 10, true)", w.x.pass(124, 10, true), -14, 3, 3);
        w.sameAs(was);
    }
}
