import java.util.Random;

/** The edges of what the document says first: the whole of the class, and an object's 512 calls. */
public final class EdgeWhatItIsTest {
    private static final int[] WILD = {-1, 0, 1, 2, 4, 5, 6, 7, 8, 9, 10, 77, 200, 201, 10000, 10001, 123456, 777777,
        777778, Integer.MIN_VALUE, Integer.MAX_VALUE};

    public static void main(String[] args) {
        oneTillOrTwoOrARowAreHeld();
        eachFailureLeavesAllHoldsAtOnce();
        whatWasDoneStays();
        whatWasDoneIsPutBack();
        theHandAfterAllItsCalls();
        theHoldsAfterAllItsCalls();
        laterCallsOnlyEnd();
        Check.done();
    }

    /** Tills 0 to 3 have three 1s each; 4 is shut, 5 has a limit of 0, 6 is empty, and 7 is missing. */
    private static Watched made() {
        Watched w = new Watched();
        for (int t = 0; t <= 6; t++) {
            w.x.till(t, t == 5 ? 0 : 9);
        }
        for (int t = 0; t <= 3; t++) {
            w.x.put(t, 0, 3);
        }
        w.x.shut(4, true);
        w.ready();
        return w;
    }

    // What it is: "Tills that are held: coins are taken, laid, moved and shared while one till, two, or a row of them are held, one within another"
    private static void oneTillOrTwoOrARowAreHeld() {
        Watched w = made();
        w.due("take(0, 1): one", w.x.take(0, 1), 1, 1, 0);
        w.due("put(0, 0, 1): one", w.x.put(0, 0, 1), 3, 1, 0);
        w.deepest(1);
        w.due("share(0, 6, 0): two", w.x.share(0, 6, 0), 1, 2, 0);
        w.due("move(0, 6, 1, false): two", w.x.move(0, 6, 1, false), 1, 2, 0);
        w.deepest(2);
        w.due("pass(1236, 1, false): a row of them", w.x.pass(1236, 1, false), 4, 4, 0);
        w.deepest(4);
        w.till(0, 1, 0, 0, 0, 0);
        w.till(6, 3, 0, 0, 0, 0);
        w.hand(1, 0, 0, 0, 0);
    }

    // What it is: "what is missing, shut, short or too much leaves all holds by its failure at once"
    private static void eachFailureLeavesAllHoldsAtOnce() {
        Watched w = made();
        String was = w.seen();
        w.due("pass(1237, 1, true): missing", w.x.pass(1237, 1, true), -11, 3, 3);
        w.due("pass(1247, 1, true): shut", w.x.pass(1247, 1, true), -12, 3, 3);
        w.due("pass(1257, 1, true): too much", w.x.pass(1257, 1, true), -14, 3, 3);
        w.sameAs(was);
        w.x.take(1, 3);
        w.x.put(1, 1, 3);
        w.x.take(2, 3);
        w.x.put(2, 2, 1);
        w.ready();
        w.due("pass(1127, 6, true): short, as 5 goes before 2, 2, 2", w.x.pass(1127, 6, true), -13, 3, 3);
        w.deepest(3);
    }

    // What it is: "and what was done by then stays, or is put back as it is left."
    private static void whatWasDoneStays() {
        Watched w = made();
        w.due("move(0, 7, 2, false)", w.x.move(0, 7, 2, false), -11, 1, 1);
        w.till(0, 1, 0, 0, 0, 0);
        w.hand(2, 0, 0, 0, 0);
        w.due("pass(1217, 2, false)", w.x.pass(1217, 2, false), -11, 3, 3);
        w.till(1, 1, 0, 0, 0, 0);
        w.till(2, 3, 0, 0, 0, 0);
        w.hand(4, 0, 0, 0, 0);
    }

    // What it is: "and what was done by then stays, or is put back as it is left."
    private static void whatWasDoneIsPutBack() {
        Watched w = made();
        String was = w.seen();
        w.due("move(0, 7, 2, true)", w.x.move(0, 7, 2, true), -11, 1, 1);
        w.sameAs(was);
        w.due("pass(1217, 2, true)", w.x.pass(1217, 2, true), -11, 3, 3);
        w.sameAs(was);
    }

    // What it is: "An object is used for at most 512 calls after it has been made"
    private static void theHandAfterAllItsCalls() {
        TillHolds x = new TillHolds();
        x.till(0, 0);
        for (int call = 2; call <= 509; call++) {
            x.put(0, 4, 200);
        }
        Check.due("hand(5), the 510th call", x.hand(5), 508 * 200);
        Check.due("hand(6), the 511th call", x.hand(6), 508 * 4000);
        Check.due("count(1), the 512th call", x.count(1), 508);
    }

    // What it is: "An object is used for at most 512 calls after it has been made"
    private static void theHoldsAfterAllItsCalls() {
        TillHolds x = new TillHolds();
        x.till(7, 0);
        for (int call = 2; call <= 511; call++) {
            x.pass(777777, 0, true);
        }
        Check.due("count(0), the 512th call", x.count(0), 510 * 6);
    }

    // What it is: "; what later calls answer is free."
    private static void laterCallsOnlyEnd() {
        TillHolds x = new TillHolds();
        Random random = new Random(512);
        int calls = 0;
        while (calls < 200000) {
            anyCall(x, random);
            calls++;
        }
        Check.due("calls that ended", calls, 200000);
    }

    private static int anyCall(TillHolds x, Random random) {
        int a = WILD[random.nextInt(random.nextBoolean() ? 8 : WILD.length)];
        int b = WILD[random.nextInt(random.nextBoolean() ? 8 : WILD.length)];
        int c = WILD[random.nextInt(WILD.length)];
        boolean flag = random.nextBoolean();
        switch (random.nextInt(12)) {
            case 0: return x.till(a, c);
            case 1: return x.drop(a);
            case 2: return x.shut(a, flag);
            case 3: return x.put(a, b, c);
            case 4: return x.take(a, c);
            case 5: return x.move(a, b, c, flag);
            case 6: return x.pass(c, b, flag);
            case 7: return x.share(a, b, c);
            case 8: return x.first(c);
            case 9: return x.look(a, c);
            case 10: return x.hand(c);
            default: return x.count(c);
        }
    }
}
