/** A new object under test, with its counts of holds as they were when they were last noted. */
final class Watched {
    /** Numbers that are far outside of every bound. */
    static final int[] FAR = {Integer.MIN_VALUE, Integer.MAX_VALUE};

    private static final int[] WORTHS = {1, 2, 5, 10, 20};

    final TillHolds x = new TillHolds();
    private int begun;
    private int left;

    /** To be called between what is only made ready and the calls that are tested. */
    void ready() {
        begun = x.count(0);
        left = x.count(1);
    }

    /** What a call answered, and how many holds it began and how many of them were left. */
    void due(String call, int got, int want, int begins, int leaves) {
        Check.due(call, got, want);
        Check.due(call + ": holds that it began", x.count(0) - begun, begins);
        Check.due(call + ": holds that were left", x.count(1) - left, leaves);
        ready();
    }

    void bad(String call, int got) {
        due(call, got, TillHolds.BAD, 0, 0);
    }

    void deepest(int want) {
        Check.due("count(2)", x.count(2), want);
    }

    /** The coins of a till that is there, a number for each kind. */
    void till(int t, int... coins) {
        for (int kind = 0; kind <= 4; kind++) {
            Check.due("look(" + t + ", " + kind + ")", x.look(t, kind), coins[kind]);
        }
        Check.due("look(" + t + ", 5)", x.look(t, 5), number(coins));
        Check.due("look(" + t + ", 6)", x.look(t, 6), worth(coins));
        ready();
    }

    void hand(int... coins) {
        for (int kind = 0; kind <= 4; kind++) {
            Check.due("hand(" + kind + ")", x.hand(kind), coins[kind]);
        }
        Check.due("hand(5)", x.hand(5), number(coins));
        Check.due("hand(6)", x.hand(6), worth(coins));
    }

    /** All that look and hand tell, to be compared with what they tell later. */
    String seen() {
        String seen = Check.seen(x);
        ready();
        return seen;
    }

    void sameAs(String was) {
        Check.holds("all is as it was:" + was, seen().equals(was));
    }

    private static int number(int[] coins) {
        int sum = 0;
        for (int n : coins) {
            sum += n;
        }
        return sum;
    }

    private static int worth(int[] coins) {
        int sum = 0;
        for (int kind = 0; kind <= 4; kind++) {
            sum += coins[kind] * WORTHS[kind];
        }
        return sum;
    }
}
