import java.util.Arrays;

/**
 * A street that is talked to: each call is told by its name, held against the answer that is due, and
 * counted, as nothing is due behind the 512th.
 */
final class Talk {
    private static final int MOST_CALLS = 512;
    /** Of a full street no more houses, needs and cables than these are looked at. */
    private static final int MOST_LOOKED_AT = 4;

    private final Checks checks;
    private final String about;
    private final DarkStreet x = new DarkStreet();
    private int calls;

    Talk(Checks checks, String about) {
        this.checks = checks;
        this.about = about;
    }

    /** A street of so many houses along a line, one beside the other, and a rule. */
    static Talk street(Checks checks, String about, int houses, String rule) {
        Talk talk = new Talk(checks, about);
        for (int h = 0; h < houses; h++) {
            talk.due(h, "house", h, 0, 0);
        }
        talk.feed(0, rule);
        talk.due(0, "rule");
        return talk;
    }

    long ask(String name, int... a) {
        calls++;
        if (calls == MOST_CALLS + 1) {
            checks.due(about + ": calls", calls, MOST_CALLS);
        }
        return Calls.answer(x, name, a);
    }

    int callsLeft() {
        return MOST_CALLS - calls;
    }

    /** A call whose answer is due. */
    void due(long want, String name, int... a) {
        checks.due(about + ": " + textOf(name, a), ask(name, a), want);
    }

    /** A call that is to answer anything but that. */
    void notDue(long unwanted, String name, int... a) {
        if (ask(name, a) == unwanted) {
            checks.due(about + ": " + textOf(name, a) + " answered " + unwanted + ", which is not due", 0, 1);
        }
    }

    /** Calls of one name that are refused with that answer, and by which nothing happens. */
    void refused(long want, String name, int[]... each) {
        String before = all();
        for (int[] a : each) {
            due(want, name, a);
        }
        checks.yes(about + ": nothing happened by " + name, before.equals(all()));
    }

    /** Feeds a text behind the tape, which holds so many bytes, and cuts it to its end. */
    void feed(int held, String text) {
        for (int i = 0; i < text.length(); i += 20) {
            int[] five = new int[5];
            for (int k = 0; k < 20; k++) {
                int sign = i + k < text.length() ? text.charAt(i + k) & 255 : 0;
                five[k / 4] = five[k / 4] << 8 | sign;
            }
            due(held + i + 20, "feed", five);
        }
        due(held + text.length(), "end", held + text.length());
    }

    /** Makes a text a rule: its number. */
    int rule(String text) {
        feed(0, text);
        return (int) ask("rule");
    }

    /** All that can be asked of a street without changing it for good, one answer behind the other. */
    String all() {
        StringBuilder all = new StringBuilder();
        for (int what = 0; what <= 10; what++) {
            add(all, "count", what);
        }
        int houses = (int) Math.min(MOST_LOOKED_AT, ask("count", 1));
        for (int h = 0; h < houses; h++) {
            addHouse(all, h, houses);
        }
        int needs = (int) Math.min(MOST_LOOKED_AT, ask("count", 2));
        for (int n = 0; n < needs; n++) {
            for (int what = 0; what < 8; what++) {
                add(all, "needs", n, what);
            }
            add(all, "ahead", 0, n);
            add(all, "ahead", 1, n);
        }
        int cables = (int) Math.min(MOST_LOOKED_AT, ask("count", 4));
        for (int c = 0; c < cables; c++) {
            add(all, "carried", c);
        }
        addWhatWouldCome(all);
        return all.toString();
    }

    private void addHouse(StringBuilder all, int h, int houses) {
        for (int what = 0; what < 10; what++) {
            add(all, "of", h, what);
        }
        add(all, "harm", h);
        add(all, "noise", h);
        add(all, "knows", h, 0);
        add(all, "knows", h, 1);
        int odds = add(all, "odds", h, 0);
        ask("odds", h, odds);
        for (int o = 0; o < houses; o++) {
            if (o != h) {
                add(all, "gave", h, o);
                int tie = add(all, "tie", h, o, 0);
                ask("tie", h, o, tie);
            }
        }
    }

    private void addWhatWouldCome(StringBuilder all) {
        int said = add(all, "say", -1);
        ask("say", said);
        for (int kind = 0; kind < 3; kind++) {
            add(all, "total", 0, 5, kind);
            add(all, "alone", 1, 5, kind, 0);
        }
        for (int what = 0; what < 2; what++) {
            add(all, "helps", 0, 5, what);
            add(all, "common", 0, 99999, 3, what);
            add(all, "common", 0, 5, 3, what);
            add(all, "should", 0, what);
            add(all, "parts", what);
        }
        add(all, "cook", 0, 0, 1);
        add(all, "missed");
        add(all, "debtor");
        add(all, "loud");
        for (int k = -1; k < 3; k++) {
            add(all, "rows", 3, k);
        }
    }

    private int add(StringBuilder all, String name, int... a) {
        long answer = ask(name, a);
        all.append(textOf(name, a)).append(' ').append(answer).append('\n');
        return (int) answer;
    }

    private static String textOf(String name, int[] a) {
        return name + Arrays.toString(a);
    }
}
