import java.util.ArrayList;
import java.util.List;

/**
 * Of each number that a call is told the least and the greatest that are allowed, and the ones beside
 * them that are not: these are refused, and nothing happens. Promises 2 to 13, 15 to 25, 27 to 37, 39
 * and 41 to 45.
 */
public final class RangesTest {
    private static final Checks CHECKS = new Checks("ranges");
    private static final long NO_DIFFERENCE = -1000000000000L;

    public static void main(String[] args) {
        telling();
        asking();
        ahead();
        places();
        CHECKS.close();
    }

    private static int[] told(int... numbers) {
        return numbers;
    }

    /** From the least to the greatest allowed; null in a row stands for a number with no range of its own. */
    private static int[] range(int least, int most) {
        return new int[] {least, most};
    }

    private static void telling() {
        row("house", -1, told(50, 50, 5), range(0, 99), range(0, 99), range(0, 9));
        row("store", -1, told(1, 2, 7), range(0, 3), range(0, 5), range(0, 99999));
        row("need", -1, told(1, 2, 5, 5, 10, 20, 0), range(0, 3), range(0, 5), range(1, 999), range(0, 999),
                range(0, 20), range(10, 95));
        row("need", -1, told(1, 2, 5, 5, 95, 95, 1), null, null, null, null, range(0, 95), range(95, 95));
        row("need", -1, told(1, 2, 5, 5, 0, 0, 1), null, null, null, null, range(0, 0), range(0, 95));
        row("maker", -1, told(1, 2, 5, 3, 5, 5), range(0, 3), range(0, 5), range(0, 999), range(0, 5),
                range(1, 999), range(0, 99));
        row("on", 0, told(0, 1), range(0, 2));
        row("cable", -1, told(0, 2, 5), range(0, 3), null, range(1, 9999));
        row("cable", -1, told(2, 0, 5), null, range(0, 3));
        row("tie", -1, told(0, 2, 5), range(0, 3), null, range(0, 9));
        row("tie", -1, told(2, 0, 5), null, range(0, 3));
        row("tie", -1, told(3, 1, 5), null, range(0, 2));
        row("knock", -1, told(1), range(0, 3));
        row("comes", 0, told(1, 1), range(0, 3));
        row("say", -2, told(7), range(-1, 99999));
        row("end", -1, told(3), range(0, 7));
        row("item", -1, told(1, 2, 5, 5), range(0, 3), range(0, 5), range(1, 99999), range(0, 9999));
        row("ends", -1, told(7, 5), range(0, 99999), range(1, 999));
        row("odds", -1, told(1, 5), range(0, 3), range(0, 1000));
        row("turner", 0, told(1, 5, 5, 5), range(0, 4), range(1, 20), range(0, 20), range(0, 999));
        row("image", -1, told(1), range(0, 3));
        row("back", -1, told(1), range(0, 2));
        row("run", -1, told(0, 3), range(0, 1), range(1, 60));
    }

    private static void asking() {
        row("of", -1, told(1, 3), range(0, 3), range(0, 9));
        row("needs", -1, told(1, 3), range(0, 2), range(0, 7));
        row("harm", -1, told(1), range(0, 3));
        row("gave", -1, told(1, 2), range(0, 3), null);
        row("gave", -1, told(2, 1), null, range(0, 3));
        row("carried", -1, told(0), range(0, 1));
        row("ahead", 0, told(0, 0), range(0, 1), range(0, 2));
        row("owes", NO_DIFFERENCE, told(1, 2), range(0, 3), null);
        row("owes", NO_DIFFERENCE, told(2, 1), null, range(0, 3));
        row("noise", -1, told(1), range(0, 3));
        row("knows", -1, told(1, 0), range(0, 3), range(0, 1));
        row("parts", -1, told(0), range(0, 1));
        row("count", -1, told(3), range(0, 10));
    }

    private static void ahead() {
        row("total", -1, told(0, 2, 1), range(0, 1), range(0, 60), range(0, 2));
        row("alone", -1, told(0, 2, 1, 1), range(0, 1), range(0, 60), range(0, 2), range(0, 3));
        row("lost", NO_DIFFERENCE, told(0, 2), range(0, 1), range(0, 60));
        row("helps", -1, told(0, 2, 1), range(0, 1), range(0, 20), range(0, 1));
        row("cook", -1, told(0, 1, 9), range(0, 1), range(0, 3), range(1, 99999));
        row("common", -1, told(0, 9, 2, 1), range(0, 1), range(0, 99999), range(0, 20), range(0, 1));
        row("should", -1, told(0, 0), range(0, 1), range(0, 1));
    }

    private static void places() {
        row("reach", -1, told(3), range(0, 15));
        row("doors", -1, told(1, 4, -1), null, null, range(-1, 0));
        row("doors", -1, told(0, 2, -1), range(0, 0), range(0, 14));
        row("doors", -1, told(3, 2, 0), range(2, 3));
        row("doors", -1, told(3, 2, -1), null, range(0, 7));
        row("rows", -1, told(3, -1), range(1, 7), range(-1, 2));
        row("rows", -1, told(7, 6), range(7, 7), range(-1, 6));
        row("rows", -1, told(1, 0), range(1, 7), range(-1, 0));
    }

    /** Tries a call with each number of a range's two ends, and with those beside it and far off. */
    private static void row(String name, long refusal, int[] told, int[]... ranges) {
        List<int[]> refused = new ArrayList<>();
        for (int i = 0; i < ranges.length; i++) {
            if (ranges[i] != null) {
                street().notDue(refusal, name, with(told, i, ranges[i][0]));
                street().notDue(refusal, name, with(told, i, ranges[i][1]));
                refused.add(with(told, i, ranges[i][0] - 1));
                refused.add(with(told, i, ranges[i][1] + 1));
                refused.add(with(told, i, Integer.MIN_VALUE));
                refused.add(with(told, i, Integer.MAX_VALUE));
            }
        }
        Talk talk = street();
        talk.refused(refusal, name, refused.toArray(new int[0][]));
        imagesAndTapeStay(talk);
    }

    private static int[] with(int[] told, int at, int number) {
        int[] numbers = told.clone();
        numbers[at] = number;
        return numbers;
    }

    /** Four houses, of which something can be told and asked with numbers of every kind. */
    private static Talk street() {
        Talk talk = new Talk(CHECKS, "street");
        talk.ask("house", 10, 10, 2);
        talk.ask("house", 13, 14, 0);
        talk.ask("house", 40, 40, 5);
        talk.ask("house", 12, 10, 1);
        talk.ask("comes", 2, 1);
        talk.ask("store", 0, 4, 9);
        talk.ask("store", 1, 1, 90);
        talk.ask("store", 3, 2, 30);
        talk.ask("need", 0, 4, 2, 3, 0, 95, 0);
        talk.ask("need", 1, 0, 2, 5, 0, 95, 1);
        talk.ask("need", 2, 2, 6, 7, 1, 50, 0);
        for (int m = 0; m < 3; m++) {
            talk.ask("maker", m, 4, m, 3, 2, 20 + m);
        }
        talk.ask("on", 1, 1);
        talk.ask("cable", 0, 1, 9);
        talk.ask("cable", 3, 1, 8);
        talk.ask("tie", 3, 2, 4);
        talk.ask("tie", 0, 1, 2);
        talk.rule("give lack/2+1;first harm+1;spoil 1");
        talk.rule("hold 2;give 9;first 100-harm");
        talk.ask("item", 0, 4, 3, 5);
        talk.ask("item", 1, 0, 3, 6);
        talk.ask("ends", 6, 2);
        talk.ask("ends", 9, 1);
        talk.ask("odds", 1, 30);
        talk.ask("turner", 0, 2, 1, 9);
        talk.ask("turner", 2, 2, 1, 8);
        talk.ask("image", 0);
        talk.ask("run", 0, 1);
        talk.ask("image", 1);
        talk.ask("run", 0, 1);
        talk.ask("image", 2);
        talk.ask("say", 30);
        talk.ask("run", 0, 1);
        talk.feed(0, "give 1+");
        return talk;
    }

    /** What can't be seen without changing it: what the tape and the images of that street hold. */
    private static void imagesAndTapeStay(Talk talk) {
        talk.due(Checks.fault(7, 0), "rule");
        for (int k = 0; k < 3; k++) {
            talk.due(k, "back", k);
            talk.due(k, "count", 0);
        }
        talk.due(-1, "back", 3);
    }
}
