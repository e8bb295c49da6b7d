import java.util.ArrayList;
import java.util.Collections;
import java.util.List;
import java.util.Map;
import java.util.TreeMap;

/**
 * The document once more, written in another way: failures are exceptions, a hold is a call around
 * what is done within, and coins are lists of worths. ModelTest compares the program with it.
 */
final class Model {
    private static final List<Integer> WORTHS = List.of(1, 2, 5, 10, 20);

    private interface Deed {
        int run();
    }

    private static final class Failure extends RuntimeException {
        private static final long serialVersionUID = 1L;
        private final int number;

        Failure(int number) {
            super(null, null, false, false);
            this.number = number;
        }
    }

    private static final class Drawer {
        private List<Integer> coins = new ArrayList<>();
        private boolean closed = false;
        private final int limit;

        Drawer(int limit) {
            this.limit = limit;
        }
    }

    private final Map<Integer, Drawer> drawers = new TreeMap<>();
    private List<Integer> hand = new ArrayList<>();
    private int begun = 0;
    private int left = 0;
    private int depth = 0;
    private int deepest = 0;

    int till(int t, int limit) {
        if (bad(t, 7) || bad(limit, 200)) {
            return -1;
        }
        drawers.put(t, new Drawer(limit));
        return 1;
    }

    int drop(int t) {
        return bad(t, 7) ? -1 : drawers.remove(t) == null ? 0 : 1;
    }

    int shut(int t, boolean is) {
        if (bad(t, 7)) {
            return -1;
        }
        return answer(() -> held(t, () -> {
            int was = drawers.get(t).closed ? 1 : 0;
            drawers.get(t).closed = is;
            return was;
        }));
    }

    int put(int t, int kind, int n) {
        if (bad(t, 7) || bad(kind, 4) || bad(n, 200)) {
            return -1;
        }
        return answer(() -> held(t, () -> {
            List<Integer> fresh = Collections.nCopies(n, WORTHS.get(kind));
            hand.addAll(fresh);
            lay(t, fresh);
            return drawers.get(t).coins.size();
        }));
    }

    int take(int t, int worth) {
        if (bad(t, 7) || bad(worth, 10000)) {
            return -1;
        }
        return answer(() -> held(t, () -> pay(t, worth).size()));
    }

    int move(int a, int b, int worth, boolean back) {
        if (bad(a, 7) || bad(b, 7) || bad(worth, 10000)) {
            return -1;
        }
        return answer(() -> held(a, () -> {
            List<Integer> paid = pay(a, worth);
            try {
                return held(b, () -> {
                    lay(b, paid);
                    return paid.size();
                });
            } catch (Failure failure) {
                if (back) {
                    shift(hand, drawers.get(a).coins, paid);
                }
                throw failure;
            }
        }));
    }

    int pass(int row, int worth, boolean back) {
        String digits = Integer.toString(row);
        if (!digits.matches("[0-7]{1,6}") || bad(worth, 10000)) {
            return -1;
        }
        List<Integer> handWas = new ArrayList<>(hand);
        return answer(() -> {
            try {
                passOn(digits, null, worth, back);
                return digits.length();
            } catch (Failure failure) {
                if (back) {
                    hand = handWas;
                }
                throw failure;
            }
        });
    }

    /** The coins are null ahead of the first till of the row. */
    private int passOn(String digits, List<Integer> coins, int worth, boolean back) {
        int t = digits.charAt(0) - '0';
        return held(t, () -> {
            List<Integer> was = new ArrayList<>(drawers.get(t).coins);
            try {
                if (coins != null) {
                    lay(t, coins);
                }
                if (digits.length() == 1) {
                    return coins == null ? pay(t, worth).size() : 0;
                }
                return passOn(digits.substring(1), pay(t, worth), worth, back);
            } catch (Failure failure) {
                if (back) {
                    drawers.get(t).coins = was;
                }
                throw failure;
            }
        });
    }

    int share(int a, int b, int kind) {
        if (bad(a, 7) || bad(b, 7) || bad(kind, 4)) {
            return -1;
        }
        return answer(() -> held(a, () -> held(b, () -> {
            fail(drawers.get(a).closed, 2);
            fail(drawers.get(b).closed, 2);
            int more = of(a, kind) > of(b, kind) ? a : b;
            int less = more == a ? b : a;
            int half = Math.abs(of(a, kind) - of(b, kind)) / 2;
            fail(drawers.get(less).coins.size() + half > drawers.get(less).limit, 4);
            shift(drawers.get(more).coins, drawers.get(less).coins, Collections.nCopies(half, WORTHS.get(kind)));
            return half;
        })));
    }

    int first(int worth) {
        if (bad(worth, 10000)) {
            return -1;
        }
        for (int t : drawers.keySet()) {
            Drawer drawer = drawers.get(t);
            if (held(t, () -> !drawer.closed && greedy(drawer, worth) != null ? 1 : 0) == 1) {
                return t;
            }
        }
        return -2;
    }

    int look(int t, int what) {
        if (bad(t, 7) || bad(what, 8)) {
            return -1;
        }
        return answer(() -> held(t, () -> what == 7 ? drawers.get(t).limit
            : what == 8 ? (drawers.get(t).closed ? 1 : 0) : tell(drawers.get(t).coins, what)));
    }

    int hand(int what) {
        return bad(what, 6) ? -1 : tell(hand, what);
    }

    int count(int what) {
        return bad(what, 3) ? -1 : List.of(begun, left, deepest, drawers.size()).get(what);
    }

    private static boolean bad(int number, int most) {
        return number < 0 || number > most;
    }

    private static void fail(boolean is, int number) {
        if (is) {
            throw new Failure(number);
        }
    }

    private static int answer(Deed deed) {
        try {
            return deed.run();
        } catch (Failure failure) {
            return -10 - failure.number;
        }
    }

    private int held(int t, Deed deed) {
        fail(!drawers.containsKey(t), 1);
        begun++;
        depth++;
        deepest = Math.max(deepest, depth);
        try {
            return deed.run();
        } catch (Failure failure) {
            left++;
            throw failure;
        } finally {
            depth--;
        }
    }

    private List<Integer> pay(int t, int worth) {
        Drawer drawer = drawers.get(t);
        fail(drawer.closed, 2);
        List<Integer> coins = greedy(drawer, worth);
        fail(coins == null, 3);
        shift(drawer.coins, hand, coins);
        return coins;
    }

    private void lay(int t, List<Integer> coins) {
        Drawer drawer = drawers.get(t);
        fail(drawer.closed, 2);
        fail(drawer.coins.size() + coins.size() > drawer.limit, 4);
        shift(hand, drawer.coins, coins);
    }

    /** Coin by coin, the greatest first; null, if some worth is left. */
    private static List<Integer> greedy(Drawer drawer, int worth) {
        List<Integer> sorted = new ArrayList<>(drawer.coins);
        sorted.sort(Collections.reverseOrder());
        List<Integer> fit = new ArrayList<>();
        int rest = worth;
        for (int coin : sorted) {
            if (coin <= rest) {
                fit.add(coin);
                rest -= coin;
            }
        }
        return rest == 0 ? fit : null;
    }

    private static void shift(List<Integer> from, List<Integer> to, List<Integer> coins) {
        for (Integer coin : coins) {
            if (!from.remove(coin)) {
                throw new IllegalStateException("the model lost a coin");
            }
        }
        to.addAll(coins);
    }

    private int of(int t, int kind) {
        return tell(drawers.get(t).coins, kind);
    }

    private static int tell(List<Integer> coins, int what) {
        int sum = 0;
        for (int coin : coins) {
            sum += what == 6 ? coin : what == 5 || WORTHS.get(what) == coin ? 1 : 0;
        }
        return sum;
    }
}
