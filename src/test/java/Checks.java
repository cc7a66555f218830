/** Counts the answers that are not as due, and tells rules to a street. */
final class Checks {
    private final String what;
    private int wrong;

    Checks(String what) {
        this.what = what;
    }

    void due(String call, long got, long want) {
        if (got != want) {
            wrong++;
            System.out.println(call + " answered " + got + ", due is " + want);
        }
    }

    void yes(String call, boolean got) {
        due(call, got ? 1 : 0, 1);
    }

    void no(String call, boolean got) {
        due(call, got ? 1 : 0, 0);
    }

    /** Ends the program: with 1 if an answer was wrong. */
    void close() {
        System.out.println(what + ": " + (wrong == 0 ? "all answers are as due" : wrong + " wrong"));
        if (wrong != 0) {
            System.exit(1);
        }
    }

    /** Feeds a text, whose tape must be empty, and cuts it to its length. */
    static void feed(DarkStreet x, String text) {
        for (int i = 0; i < text.length(); i += 20) {
            x.feed(four(text, i), four(text, i + 4), four(text, i + 8), four(text, i + 12), four(text, i + 16));
        }
        x.end(text.length());
    }

    static int rule(DarkStreet x, String text) {
        feed(x, text);
        return x.rule();
    }

    /** What a text with that fault answers. */
    static int fault(int place, int kind) {
        return -2 - (1 + 8 * place + kind);
    }

    private static int four(String text, int from) {
        int number = 0;
        for (int i = from; i < from + 4; i++) {
            number = number << 8 | (i < text.length() ? text.charAt(i) & 255 : 0);
        }
        return number;
    }

    static String times(String text, int n) {
        StringBuilder all = new StringBuilder();
        for (int i = 0; i < n; i++) {
            all.append(text);
        }
        return all.toString();
    }
}
