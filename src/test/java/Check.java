/** Counts what a test finds wrong, and ends the test with exit code 1 if there was anything. */
final class Check {
    private static int asked = 0;
    private static int wrong = 0;

    private Check() {
    }

    static void due(String call, long got, long want) {
        asked++;
        if (got != want) {
            wrong++;
            System.out.println(call + " answered " + got + ", due is " + want);
        }
    }

    static void holds(String what, boolean does) {
        asked++;
        if (!does) {
            wrong++;
            System.out.println("not so: " + what);
        }
    }

    /** All a caller can see of an object without changing more than its number of holds. */
    static String seen(TillHolds x) {
        StringBuilder text = new StringBuilder();
        for (int t = 0; t < 8; t++) {
            text.append(" till ").append(t).append(':');
            for (int what = 0; what <= 8; what++) {
                text.append(' ').append(x.look(t, what));
            }
        }
        text.append(" hand:");
        for (int what = 0; what <= 6; what++) {
            text.append(' ').append(x.hand(what));
        }
        return text.toString();
    }

    static void done() {
        System.out.println(wrong == 0 ? asked + " answers are as due" : wrong + " of " + asked + " are not as due");
        if (wrong != 0) {
            System.exit(1);
        }
    }
}
