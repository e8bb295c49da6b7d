import java.util.Random;

/** Long runs of calls, the same ones each time: the program answers as the model does. */
public final class ModelTest {
    private static final int RUNS = 1500;
    private static final int CALLS = 400;
    private static final int[] WILD = {-1, 8, 9, 201, 10001, -2, Integer.MIN_VALUE, Integer.MAX_VALUE};

    private final Random random;
    private final TillHolds program = new TillHolds();
    private final Model model = new Model();

    private ModelTest(int seed) {
        random = new Random(seed);
    }

    public static void main(String[] args) {
        for (int seed = 1; seed <= RUNS; seed++) {
            new ModelTest(seed).run(seed);
        }
        Check.done();
    }

    private void run(int seed) {
        for (int t = 0; t < 8; t++) {
            int limit = random.nextInt(30);
            Check.due("till", program.till(t, limit), model.till(t, limit));
        }
        for (int call = 0; call < CALLS; call++) {
            step("run " + seed + ", call " + call + ": ", random.nextInt(18));
        }
        for (int what = 0; what <= 3; what++) {
            Check.due("run " + seed + ", count(" + what + ")", program.count(what), model.count(what));
        }
    }

    private int upTo(int most) {
        return random.nextInt(60) == 0 ? WILD[random.nextInt(WILD.length)] : random.nextInt(most + 1);
    }

    private int worth() {
        return upTo(random.nextInt(8) == 0 ? 200 : 12);
    }

    private int row() {
        int row = 0;
        int length = 1 + random.nextInt(6);
        for (int place = 0; place < length; place++) {
            row = row * 10 + upTo(7);
        }
        return row;
    }

    private void step(String at, int which) {
        int a = upTo(7);
        int b = upTo(7);
        int kind = upTo(4);
        int what = upTo(8);
        int n = upTo(9);
        int worth = worth();
        int row = row();
        boolean flag = random.nextBoolean();
        boolean seldom = random.nextInt(4) == 0;
        String numbers = at + a + " " + b + " " + kind + " " + what + " " + n + " " + worth + " " + row + " " + flag + ": ";
        switch (which) {
            case 0: Check.due(numbers + "till", program.till(a, n * 4), model.till(a, n * 4)); break;
            case 1: if (seldom) { Check.due(numbers + "drop", program.drop(a), model.drop(a)); } break;
            case 2: Check.due(numbers + "shut", program.shut(a, seldom), model.shut(a, seldom)); break;
            case 3: case 4: case 5: Check.due(numbers + "put", program.put(a, kind, n), model.put(a, kind, n)); break;
            case 6: Check.due(numbers + "take", program.take(a, worth), model.take(a, worth)); break;
            case 7: case 8: Check.due(numbers + "move", program.move(a, b, worth, flag), model.move(a, b, worth, flag)); break;
            case 9: case 10: case 11: Check.due(numbers + "pass", program.pass(row, worth, flag), model.pass(row, worth, flag)); break;
            case 12: case 13: Check.due(numbers + "share", program.share(a, b, kind), model.share(a, b, kind)); break;
            case 14: Check.due(numbers + "first", program.first(worth), model.first(worth)); break;
            case 15: Check.due(numbers + "look", program.look(a, what), model.look(a, what)); break;
            case 16: Check.due(numbers + "hand", program.hand(what), model.hand(what)); break;
            default: Check.due(numbers + "count", program.count(kind), model.count(kind)); break;
        }
    }
}
