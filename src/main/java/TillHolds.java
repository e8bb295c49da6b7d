/**
 * Tills that are held, one within another, while coins are paid, laid, moved, passed and shared.
 *
 * <p>Everything that a call needs is made by the constructor, so that calls make no objects.
 */
public final class TillHolds {
    public static final int BAD = -1, NONE = -2;

    private static final int TILLS = 8;
    private static final int KINDS = 5;
    private static final int[] WORTHS = {1, 2, 5, 10, 20};

    private static final int MOST_LIMIT = 200;
    private static final int MOST_NEW_COINS = 200;
    private static final int MOST_WORTH = 10000;
    private static final int LONGEST_ROW = 6;
    private static final int HIGHEST_ROW = 777777;

    // A failure goes out through the holds as the answer that it ends in: all other results of
    // what is done within a hold are 0 or more, so below 0 always means a failure.
    private static final int MISSING = -11;
    private static final int SHUT = -12;
    private static final int SHORT = -13;
    private static final int FULL = -14;

    // What look and hand can be asked for beside the kinds.
    private static final int ALL_COINS = 5;
    private static final int ALL_WORTH = 6;
    private static final int LIMIT = 7;
    private static final int SHUTNESS = 8;

    // What count can be asked for.
    private static final int BEGUN = 0;
    private static final int LEFT = 1;
    private static final int DEEPEST = 2;
    private static final int THERE = 3;

    private final Till[] tills;
    private final Coins inHand;
    private final Holds holds;

    // Used again by every call; none of these tells anything from one call to the next.
    private final Coins picked;
    private final Coins handBefore;
    private final Coins[] coinsBefore;
    private final int[] places;

    public TillHolds() {
        tills = new Till[TILLS];
        for (int t = 0; t < TILLS; t++) {
            tills[t] = new Till();
        }
        inHand = new Coins();
        holds = new Holds();
        picked = new Coins();
        handBefore = new Coins();
        coinsBefore = new Coins[LONGEST_ROW];
        for (int place = 0; place < LONGEST_ROW; place++) {
            coinsBefore[place] = new Coins();
        }
        places = new int[LONGEST_ROW];
    }

    public int till(int t, int limit) {
        if (!isTill(t) || !isUpTo(limit, MOST_LIMIT)) {
            return BAD;
        }
        Till till = tills[t];
        till.isThere = true;
        till.isShut = false;
        till.limit = limit;
        till.coins.clear();
        return 1;
    }

    public int drop(int t) {
        if (!isTill(t)) {
            return BAD;
        }
        int was = tills[t].isThere ? 1 : 0;
        tills[t].isThere = false;
        return was;
    }

    public int shut(int t, boolean is) {
        if (!isTill(t)) {
            return BAD;
        }
        Till till = tills[t];
        if (!begin(till)) {
            return MISSING;
        }
        int was = till.isShut ? 1 : 0;
        till.isShut = is;
        return end(was);
    }

    public int put(int t, int kind, int n) {
        if (!isTill(t) || !isKind(kind) || !isUpTo(n, MOST_NEW_COINS)) {
            return BAD;
        }
        Till till = tills[t];
        if (!begin(till)) {
            return MISSING;
        }
        picked.clear();
        picked.of[kind] = n;
        inHand.add(picked);
        return end(layPicked(till));
    }

    public int take(int t, int worth) {
        if (!isTill(t) || !isUpTo(worth, MOST_WORTH)) {
            return BAD;
        }
        Till till = tills[t];
        return begin(till) ? end(pay(till, worth)) : MISSING;
    }

    public int move(int a, int b, int worth, boolean back) {
        if (!isTill(a) || !isTill(b) || !isUpTo(worth, MOST_WORTH)) {
            return BAD;
        }
        Till from = tills[a];
        return begin(from) ? end(moveWithin(from, tills[b], worth, back)) : MISSING;
    }

    public int pass(int row, int worth, boolean back) {
        int length = readRow(row);
        if (length == BAD || !isUpTo(worth, MOST_WORTH)) {
            return BAD;
        }
        handBefore.become(inHand);
        int answer = passFrom(0, length, worth, back);
        if (answer < 0 && back) {
            inHand.become(handBefore);
        }
        return answer;
    }

    public int share(int a, int b, int kind) {
        if (!isTill(a) || !isTill(b) || !isKind(kind)) {
            return BAD;
        }
        Till one = tills[a];
        Till other = tills[b];
        if (!begin(one)) {
            return MISSING;
        }
        return end(begin(other) ? end(halve(one, other, kind)) : MISSING);
    }

    public int first(int worth) {
        if (!isUpTo(worth, MOST_WORTH)) {
            return BAD;
        }
        for (int t = 0; t < TILLS; t++) {
            if (couldPay(tills[t], worth)) {
                return t;
            }
        }
        return NONE;
    }

    public int look(int t, int what) {
        if (!isTill(t) || !isUpTo(what, SHUTNESS)) {
            return BAD;
        }
        Till till = tills[t];
        return begin(till) ? end(till.tell(what)) : MISSING;
    }

    public int hand(int what) {
        return isUpTo(what, ALL_WORTH) ? inHand.tell(what) : BAD;
    }

    public int count(int what) {
        switch (what) {
            case BEGUN:
                return holds.begun;
            case LEFT:
                return holds.left;
            case DEEPEST:
                return holds.deepest;
            case THERE:
                return tillsThere();
            default:
                return BAD;
        }
    }

    private static boolean isUpTo(int number, int most) {
        return number >= 0 && number <= most;
    }

    private static boolean isTill(int t) {
        return t >= 0 && t < TILLS;
    }

    private static boolean isKind(int kind) {
        return kind >= 0 && kind < KINDS;
    }

    private int tillsThere() {
        int there = 0;
        for (int t = 0; t < TILLS; t++) {
            if (tills[t].isThere) {
                there++;
            }
        }
        return there;
    }

    /** A missing till is not held: no hold begins then, and none may be ended. */
    private boolean begin(Till till) {
        if (till.isThere) {
            holds.begin();
        }
        return till.isThere;
    }

    /** Hands its argument on, so that a failure within reaches the hold around. */
    private int end(int result) {
        holds.end(result < 0);
        return result;
    }

    /** Tries a worth from a till's coins: what it would pay is picked then, and nothing goes. */
    private boolean pick(Till till, int worth) {
        int rest = worth;
        for (int kind = KINDS - 1; kind >= 0; kind--) {
            int n = Math.min(till.coins.of[kind], howOftenIn(rest, WORTHS[kind]));
            picked.of[kind] = n;
            rest -= n * WORTHS[kind];
        }
        return rest == 0;
    }

    /** No coin is worth 0, but a divisor is looked at before it divides. */
    private static int howOftenIn(int rest, int worth) {
        return worth > 0 ? rest / worth : 0;
    }

    private boolean couldPay(Till till, int worth) {
        if (!begin(till)) {
            return false;
        }
        boolean could = !till.isShut && pick(till, worth);
        // Nothing was to be paid, so that it could not is no failure, and the hold is not left.
        end(0);
        return could;
    }

    /** How many coins were paid, or a failure; they stay picked, to be laid or to come back. */
    private int pay(Till till, int worth) {
        if (till.isShut) {
            return SHUT;
        }
        if (!pick(till, worth)) {
            return SHORT;
        }
        till.coins.remove(picked);
        inHand.add(picked);
        return picked.number();
    }

    /** How many coins the till has then, or a failure. */
    private int layPicked(Till till) {
        if (till.isShut) {
            return SHUT;
        }
        if (!till.hasRoomFor(picked.number())) {
            return FULL;
        }
        inHand.remove(picked);
        till.coins.add(picked);
        return till.coins.number();
    }

    private int moveWithin(Till from, Till to, int worth, boolean back) {
        int paid = pay(from, worth);
        if (paid < 0) {
            return paid;
        }
        int laid = begin(to) ? end(layPicked(to)) : MISSING;
        if (laid >= 0) {
            return paid;
        }
        if (back) {
            // Not laid: they come back whatever the till is.
            inHand.remove(picked);
            from.coins.add(picked);
        }
        return laid;
    }

    /** How many tills the row has, their numbers then standing in places; or BAD. */
    private int readRow(int row) {
        if (!isUpTo(row, HIGHEST_ROW)) {
            return BAD;
        }
        int length = digitsOf(row);
        int rest = row;
        for (int place = length - 1; place >= 0; place--) {
            int digit = rest % 10;
            if (!isTill(digit)) {
                return BAD;
            }
            places[place] = digit;
            rest /= 10;
        }
        return length;
    }

    private static int digitsOf(int row) {
        int digits = 1;
        int next = 10;
        while (digits < LONGEST_ROW && row >= next) {
            digits++;
            next *= 10;
        }
        return digits;
    }

    /** Calls itself by passWithin, a place on each time: no deeper than the row is long. */
    private int passFrom(int place, int length, int worth, boolean back) {
        if (place >= length || place >= LONGEST_ROW) {
            return length;
        }
        Till till = tills[places[place]];
        if (!begin(till)) {
            return MISSING;
        }
        coinsBefore[place].become(till.coins);
        int answer = passWithin(till, place, length, worth, back);
        if (answer < 0 && back) {
            till.coins.become(coinsBefore[place]);
        }
        return end(answer);
    }

    private int passWithin(Till till, int place, int length, int worth, boolean back) {
        boolean isFirst = place == 0;
        boolean isLast = place == length - 1;
        int done = isFirst ? 0 : layPicked(till);
        // The first one pays even where it is the last one too.
        if (done >= 0 && (isFirst || !isLast)) {
            done = pay(till, worth);
        }
        return done < 0 ? done : passFrom(place + 1, length, worth, back);
    }

    private static int halve(Till one, Till other, int kind) {
        if (one.isShut || other.isShut) {
            return SHUT;
        }
        int half = (one.coins.of[kind] - other.coins.of[kind]) / 2;
        return half < 0 ? give(other, one, kind, -half) : give(one, other, kind, half);
    }

    private static int give(Till from, Till to, int kind, int n) {
        if (!to.hasRoomFor(n)) {
            return FULL;
        }
        from.coins.of[kind] -= n;
        to.coins.of[kind] += n;
        return n;
    }

    /** How many coins there are of each kind. */
    private static final class Coins {
        final int[] of = new int[KINDS];

        int number() {
            int sum = 0;
            for (int kind = 0; kind < KINDS; kind++) {
                sum += of[kind];
            }
            return sum;
        }

        int worth() {
            int sum = 0;
            for (int kind = 0; kind < KINDS; kind++) {
                sum += of[kind] * WORTHS[kind];
            }
            return sum;
        }

        int tell(int what) {
            if (isKind(what)) {
                return of[what];
            }
            return what == ALL_COINS ? number() : worth();
        }

        void clear() {
            for (int kind = 0; kind < KINDS; kind++) {
                of[kind] = 0;
            }
        }

        void become(Coins model) {
            for (int kind = 0; kind < KINDS; kind++) {
                of[kind] = model.of[kind];
            }
        }

        void add(Coins some) {
            for (int kind = 0; kind < KINDS; kind++) {
                of[kind] += some.of[kind];
            }
        }

        void remove(Coins some) {
            for (int kind = 0; kind < KINDS; kind++) {
                of[kind] -= some.of[kind];
            }
        }
    }

    /** A till, or the place of one that is missing. */
    private static final class Till {
        final Coins coins = new Coins();
        boolean isThere;
        boolean isShut;
        int limit;

        boolean hasRoomFor(int more) {
            return coins.number() + more <= limit;
        }

        int tell(int what) {
            if (what == LIMIT) {
                return limit;
            }
            if (what == SHUTNESS) {
                return isShut ? 1 : 0;
            }
            return coins.tell(what);
        }
    }

    /** The holds that stand open now, and what is told of all that ever began. */
    private static final class Holds {
        int begun;
        int left;
        int depth;
        int deepest;

        void begin() {
            begun++;
            depth++;
            deepest = Math.max(deepest, depth);
        }

        void end(boolean byFailure) {
            depth--;
            if (byFailure) {
                left++;
            }
        }
    }
}
