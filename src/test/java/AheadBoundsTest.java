/**
 * The sentences of the document that name a boundary of what would come: promises 22 to 25, 27, 29
 * and 31.
 */
public final class AheadBoundsTest {
    private static final Checks CHECKS = new Checks("bounds of ahead");
    private static final long NO_DIFFERENCE = -1000000000000L;

    public static void main(String[] args) {
        aheadOfNone();
        nothingChanges();
        oneHouse();
        lost();
        helpsLeast();
        allAreBack();
        cookIfItIsNow();
        cook400AtMost();
        cookAlone();
        cookGoesOnBeyond9999();
        aheadGoesOnBeyond9999();
        notAboveSoManyCoins();
        leastPriceThenNumber();
        commonByTheRule();
        storesAtMost();
        noItems();
        endsNearEnough();
        endsThatHavePassed();
        earliestOfSeveral();
        endsFarOffCanBeSaid();
        shouldGoesOnBeyond9999();
        noEnds();
        CHECKS.close();
    }

    private static Talk houses(String about, int n, String rule) {
        return Talk.street(CHECKS, about, n, rule);
    }

    /** Goes on to a quarter. */
    private static void goTo(Talk talk, int quarter) {
        for (int now = (int) talk.ask("count", 0); now < quarter; now = Math.min(quarter, now + 60)) {
            talk.ask("run", 0, Math.min(60, quarter - now));
        }
        talk.due(quarter, "count", 0);
    }

    private static void aheadOfNone() {
        Talk talk = houses("HARM AHEAD of n QUARTERS (0 to 60)", 2, "give 9");
        talk.ask("need", 0, 4, 2, 3, 0, 95, 0);
        for (int kind = 0; kind < 3; kind++) {
            talk.due(0, "total", 0, 0, kind);
            talk.due(6, "total", 0, 1, kind);
            talk.due(360, "total", 0, 60, kind);
            talk.due(0, "alone", 0, 0, kind, 0);
            talk.due(6, "alone", 0, 1, kind, 0);
            talk.due(360, "alone", 0, 60, kind, 0);
            talk.due(0, "alone", 0, 60, kind, 1);
        }
        talk.due(0, "lost", 0, 0);
        talk.due(0, "lost", 0, 60);
        talk.due(0, "helps", 0, 0, 0);
        talk.due(0, "helps", 0, 0, 1);
        talk.due(120, "helps", 0, 20, 1);
        talk.due(0, "common", 0, 0, 0, 1);
        talk.due(120, "common", 0, 0, 20, 1);
        talk.refused(-1, "total", new int[] {0, 61, 0}, new int[] {0, -1, 0}, new int[] {0, 1, 3}, new int[] {0, 1, -1},
                new int[] {1, 1, 0}, new int[] {-1, 1, 0});
        talk.due(-1, "alone", 0, 1, 0, 2);
        talk.due(NO_DIFFERENCE, "lost", 0, 61);
        talk.due(-1, "helps", 0, 21, 1);
        talk.due(-1, "common", 0, 0, 21, 1);
    }

    private static void nothingChanges() {
        Talk talk = houses("(nothing changes)", 3, "give 2;spoil 1;first harm");
        talk.feed(0, "give 9");
        talk.due(1, "rule");
        talk.ask("cable", 0, 1, 3);
        talk.ask("tie", 2, 0, 1);
        talk.ask("store", 1, 0, 50);
        talk.ask("store", 2, 4, 50);
        talk.ask("store", 0, 1, 50);
        talk.ask("maker", 1, 3, 0, 5, 9, 9);
        talk.ask("on", 0, 1);
        talk.ask("comes", 2, 1);
        talk.ask("need", 0, 0, 3, 5, 0, 95, 0);
        talk.ask("need", 0, 4, 3, 5, 0, 95, 1);
        talk.ask("item", 0, 4, 9, 1);
        talk.ask("ends", 9, 1);
        talk.ask("ends", 20, 1);
        talk.ask("say", 5);
        String before = talk.all();
        talk.ask("total", 0, 60, 0);
        talk.ask("total", 1, 60, 2);
        talk.ask("alone", 0, 60, 1, 0);
        talk.ask("lost", 0, 60);
        talk.ask("helps", 0, 20, 0);
        talk.ask("cook", 0, 0, 1);
        talk.ask("common", 1, 9, 20, 0);
        talk.ask("should", 1, 0);
        CHECKS.yes("(nothing changes)", before.equals(talk.all()));
        talk.due(0, "count", 0);
        talk.due(50, "of", 0, 1);
        talk.due(0, "of", 2, 0);
        talk.due(0, "harm", 0);
        talk.due(0, "gave", 1, 0);
        talk.due(0, "carried", 0);
        talk.due(0, "needs", 1, 6);
        talk.due(5, "say", 5);
    }

    private static void oneHouse() {
        Talk talk = houses("HARM AHEAD of one HOUSE", 3, "give 99;first 0-harm");
        talk.ask("tie", 1, 0, 1);
        talk.ask("store", 1, 4, 3);
        talk.ask("need", 0, 4, 2, 3, 0, 95, 0);
        talk.ask("need", 1, 4, 1, 10, 0, 95, 0);
        talk.ask("need", 2, 4, 1, 100, 0, 95, 0);
        long[][] due = {{0, 0, 100}, {6, 0, 100}, {0, 0, 100}};
        for (int kind = 0; kind < 3; kind++) {
            for (int h = 0; h < 3; h++) {
                talk.due(due[kind][h], "alone", 0, 1, kind, h);
            }
        }
        talk.due(100, "run", 0, 1);
        talk.due(100, "harm", 2);
        // From now on: what was before does not count.
        talk.due(0, "alone", 0, 0, 0, 2);
        talk.due(200, "alone", 0, 2, 0, 2);
        talk.due(100, "harm", 2);
    }

    private static void lost() {
        Talk talk = houses("LOST: by the RULE less TOGETHER", 2, "give 0;hold 9999");
        talk.ask("store", 1, 4, 2);
        talk.ask("need", 0, 4, 1, 3, 0, 95, 0);
        talk.due(3, "lost", 0, 1);
        talk.due(6, "lost", 0, 2);
        talk.due(6, "lost", 0, 3);
        talk.refused(NO_DIFFERENCE, "lost", new int[] {1, 1}, new int[] {-1, 1}, new int[] {0, 61}, new int[] {0, -1});
        // Where all give to a need of little harm, what is left for a great one is less than by the rule.
        talk.ask("need", 1, 4, 2, 100, 1, 1, 0);
        talk.due(2 * 3 - 2 * 100, "lost", 0, 2);
    }

    private static void helpsLeast() {
        Talk talk = houses("HELPS: of several the least", 3, "give 99");
        talk.ask("need", 1, 0, 1, 5, 0, 95, 0);
        talk.ask("need", 2, 0, 1, 5, 0, 95, 0);
        talk.due(1, "helps", 0, 1, 0);
        talk.due(5, "helps", 0, 1, 1);
        talk.due(0, "helps", 0, 0, 0);
        talk.ask("need", 2, 0, 1, 1, 0, 0, 0);
        talk.due(2, "helps", 0, 1, 0);
        talk.due(5, "helps", 0, 1, 1);
        talk.ask("cable", 0, 2, 9);
        talk.ask("cable", 0, 1, 9);
        talk.due(0, "helps", 0, 20, 0);
        talk.due(0, "helps", 0, 20, 1);
        // Of those that are not back alone.
        talk.ask("comes", 0, 1);
        talk.due(1, "helps", 0, 20, 0);
        talk.due(0, "helps", 0, 20, 1);
        talk.refused(-1, "helps", new int[] {0, 21, 0}, new int[] {0, -1, 0}, new int[] {0, 1, 2}, new int[] {0, 1, -1},
                new int[] {1, 1, 0}, new int[] {-1, 1, 0});
        talk.due(0, "of", 1, 7);
    }

    private static void allAreBack() {
        Talk talk = houses("-2: all are BACK", 12, "give 99");
        talk.ask("need", 11, 0, 1, 5, 0, 95, 0);
        for (int h = 0; h < 12; h++) {
            talk.due(11, "helps", 0, 20, 0);
            talk.due(0, "helps", 0, 20, 1);
            talk.due(100, "total", 0, 20, 0);
            talk.due(1, "comes", h, 1);
        }
        talk.due(-2, "helps", 0, 20, 0);
        talk.due(-2, "helps", 0, 0, 1);
        talk.due(-1, "helps", 0, 21, 0);
        talk.due(1, "comes", 0, 0);
        talk.due(0, "helps", 0, 20, 0);
    }

    private static void cookIfItIsNow() {
        Talk talk = houses("COOK: 0 if it is now", 1, "spoil 3");
        talk.due(0, "cook", 0, 0, 1);
        talk.due(0, "cook", 0, 0, 99999);
        talk.ask("store", 0, 1, 10);
        talk.due(0, "cook", 0, 0, 11);
        talk.due(1, "cook", 0, 0, 10);
        talk.due(1, "cook", 0, 0, 8);
        talk.due(2, "cook", 0, 0, 7);
        talk.due(2, "cook", 0, 0, 5);
        talk.due(3, "cook", 0, 0, 4);
        talk.due(4, "cook", 0, 0, 1);
        talk.ask("store", 0, 1, 99999);
        talk.due(1, "cook", 0, 0, 99999);
        talk.ask("store", 0, 1, 99998);
        talk.due(0, "cook", 0, 0, 99999);
        talk.refused(-1, "cook", new int[] {0, 0, 0}, new int[] {0, 0, 100000}, new int[] {0, 1, 5}, new int[] {0, -1, 5},
                new int[] {1, 0, 5}, new int[] {-1, 0, 5});
    }

    private static void cook400AtMost() {
        Talk talk = houses("COOK: 400 at most, else none", 2, "spoil 1 if house=0");
        talk.ask("store", 0, 1, 500);
        talk.ask("store", 1, 1, 500);
        talk.due(399, "cook", 0, 0, 102);
        talk.due(400, "cook", 0, 0, 101);
        talk.due(-2, "cook", 0, 0, 100);
        talk.due(-2, "cook", 0, 0, 1);
        talk.due(-2, "cook", 0, 1, 500);
        talk.due(0, "cook", 0, 1, 501);
        talk.ask("store", 0, 1, 400);
        talk.due(400, "cook", 0, 0, 1);
        talk.ask("store", 0, 1, 401);
        talk.due(-2, "cook", 0, 0, 1);
    }

    private static void cookAlone() {
        Talk talk = houses("COOK: if it spoils alone (all else as it is)", 2, "spoil 2+0*quarter;give 9");
        talk.ask("need", 0, 1, 50, 1, 0, 95, 0);
        talk.ask("need", 1, 1, 50, 1, 0, 95, 0);
        talk.ask("tie", 0, 1, 1);
        talk.ask("maker", 0, 3, 0, 1, 50, 0);
        talk.ask("on", 0, 1);
        talk.ask("store", 0, 1, 10);
        talk.due(3, "cook", 0, 0, 5);
        Talk until = houses("COOK: NOW going on", 1, "spoil 1 if until=0;spoil 2 if hour=1;spoil 0");
        until.ask("store", 0, 1, 10);
        until.due(5, "cook", 0, 0, 10);
        until.ask("say", 2);
        until.due(3, "cook", 0, 0, 10);
        until.ask("say", 99999);
        until.due(8, "cook", 0, 0, 3);
        // Hour 1 of the second day begins with quarter 100, behind the four of the first day.
        until.due(101, "cook", 0, 0, 2);
    }

    private static void cookGoesOnBeyond9999() {
        Talk talk = houses("NOW goes on beyond 9999, in COOK, too", 1, "spoil 1 if quarter>10397;spoil 0");
        talk.ask("store", 0, 1, 5);
        goTo(talk, 9999);
        talk.due(400, "cook", 0, 0, 5);
        talk.due(9999, "count", 0);
        Talk day = houses("the day goes round beyond 9999", 1, "spoil 1 if hour=0;spoil 0");
        goTo(day, 9999);
        day.ask("store", 0, 1, 5);
        // 9999 is 15 of its day: 81 more to the next day, whose first one spoils.
        day.due(82, "cook", 0, 0, 5);
    }

    private static void aheadGoesOnBeyond9999() {
        Talk talk = houses("NOW goes on beyond 9999", 1, "give 1");
        talk.ask("need", 0, 4, 1, 1, 0, 15, 0);
        talk.ask("need", 0, 5, 1, 100, 74, 75, 0);
        talk.ask("need", 0, 3, 1, 999, 16, 16, 0);
        goTo(talk, 9999);
        talk.due(1, "total", 0, 1, 0);
        talk.due(1 + 999, "total", 0, 2, 0);
        talk.due(1 + 999 + 100, "total", 0, 60, 0);
        talk.due(1 + 999, "total", 0, 59, 1);
        talk.due(1100, "total", 0, 60, 2);
        talk.due(1100, "alone", 0, 60, 0, 0);
        talk.due(1000, "helps", 0, 20, 1);
        talk.due(1000, "common", 0, 0, 20, 1);
        talk.due(-1, "run", 0, 1);
    }

    private static void notAboveSoManyCoins() {
        Talk talk = houses("prices together not above so many coins", 1, "give 1");
        talk.ask("need", 0, 4, 6, 1, 0, 95, 0);
        talk.ask("item", 0, 4, 1, 9999);
        talk.ask("item", 0, 4, 1, 7);
        talk.ask("item", 0, 4, 2, 9);
        int[] coins = {0, 6, 7, 8, 9, 15, 16, 10005, 10006, 10007, 10008, 10014, 10015, 99999};
        int[] set = {0, 0, 2, 2, 4, 4, 6, 6, 6, 6, 6, 6, 7, 7};
        int[] harm = {6, 6, 5, 5, 4, 4, 3, 3, 3, 3, 3, 3, 2, 2};
        for (int i = 0; i < coins.length; i++) {
            talk.due(set[i], "common", 0, coins[i], 1, 0);
            talk.due(harm[i], "common", 0, coins[i], 1, 1);
        }
        talk.refused(-1, "common", new int[] {0, -1, 1, 0}, new int[] {0, 100000, 1, 0}, new int[] {0, 1, 21, 0},
                new int[] {0, 1, -1, 0}, new int[] {0, 1, 1, 2}, new int[] {0, 1, 1, -1}, new int[] {1, 1, 1, 0});
        Talk all = houses("all six of them at their dearest", 1, "give 1");
        all.ask("need", 0, 4, 6, 1, 0, 95, 0);
        for (int i = 0; i < 6; i++) {
            all.due(i + 1, "item", 0, 4, 1, 9999);
        }
        all.due(63, "common", 0, 99999, 1, 0);
        all.due(63, "common", 0, 6 * 9999, 1, 0);
        all.due(31, "common", 0, 6 * 9999 - 1, 1, 0);
        all.due(1, "common", 0, 6 * 9999 - 1, 1, 1);
        all.due(0, "common", 0, 9998, 1, 0);
    }

    private static void leastPriceThenNumber() {
        Talk talk = houses("of several that with the least price, then the least as a number", 2, "give 1");
        talk.ask("need", 0, 4, 1, 1, 0, 95, 0);
        talk.ask("item", 0, 4, 1, 5);
        talk.ask("item", 0, 4, 1, 4);
        talk.ask("item", 0, 4, 1, 4);
        talk.ask("item", 0, 5, 9, 0);
        talk.due(2, "common", 0, 99, 1, 0);
        talk.due(0, "common", 0, 99, 0, 0);
        talk.due(0, "common", 0, 3, 1, 0);
        talk.due(6, "common", 0, 99, 2, 0);
        talk.due(7, "common", 0, 99, 20, 0);
        // One of price 0 that is of use is worth having, one of none is not.
        talk.ask("item", 0, 4, 1, 0);
        talk.due(16, "common", 0, 99, 1, 0);
        talk.due(16 + 2, "common", 0, 99, 2, 0);
        talk.ask("item", 0, 4, 1, 0);
        talk.due(16, "common", 0, 99, 1, 0);
        talk.due(48, "common", 0, 99, 2, 0);
    }

    /** By the rule one HOUSE gives another one what was bought for it, as far as that is told. */
    private static void commonByTheRule() {
        Talk talk = houses("COMMON: HARM AHEAD (KIND 0)", 2, "give 2;hold 1");
        talk.ask("tie", 1, 0, 1);
        talk.ask("need", 0, 4, 5, 1, 0, 95, 0);
        talk.ask("item", 1, 4, 9, 5);
        talk.due(1, "common", 0, 5, 1, 0);
        talk.due(3, "common", 0, 5, 1, 1);
        talk.due(20 - 8, "common", 0, 5, 4, 1);
        talk.ask("tie", 1, 0, 0);
        talk.due(0, "common", 0, 5, 1, 0);
        talk.due(5, "common", 0, 5, 1, 1);
    }

    private static void storesAtMost() {
        int[] has = {99996, 99997, 99998, 99999};
        for (int i = 0; i < has.length; i++) {
            Talk talk = houses("(STORES 99999 at most)", 1, "spoil 99997");
            talk.ask("store", 0, 1, has[i]);
            talk.ask("need", 0, 1, 9, 1, 0, 95, 0);
            talk.ask("item", 0, 1, 2, 1);
            talk.due(i == 3 ? 0 : 1, "common", 0, 9, 1, 0);
            talk.due(9 - Math.min(2, has[i] + 2 - 99997), "common", 0, 9, 1, 1);
            talk.ask("item", 0, 1, 99999, 1);
            talk.due(7, "common", 0, 9, 1, 1);
            talk.due(has[i], "of", 0, 1);
        }
    }

    private static void noItems() {
        Talk talk = houses("no ITEMS", 1, "give 1");
        talk.ask("need", 0, 4, 1, 1, 0, 95, 0);
        talk.due(0, "common", 0, 99999, 20, 0);
        talk.due(20, "common", 0, 99999, 20, 1);
        talk.due(0, "common", 0, 0, 0, 1);
    }

    private static void endsNearEnough() {
        Talk talk = houses("up to each END not behind NOW + 60", 1, "give 1");
        talk.ask("need", 0, 4, 1, 1, 0, 95, 0);
        talk.due(1, "ends", 60, 2);
        talk.due(120, "should", 0, 1);
        talk.due(2, "ends", 61, 999);
        talk.due(120, "should", 0, 1);
        talk.due(60, "should", 0, 0);
        talk.due(3, "ends", 59, 1);
        talk.due(120 + 59, "should", 0, 1);
        talk.due(59, "should", 0, 0);
        talk.ask("run", 0, 1);
        talk.due(59 * 2 + 60 * 999 + 58, "should", 0, 1);
    }

    private static void endsThatHavePassed() {
        Talk talk = houses("(QUARTERS NOW to one less than it; 0 for one that has passed)", 1, "give 1");
        talk.ask("need", 0, 4, 1, 1, 0, 95, 0);
        talk.ask("ends", 2, 1);
        talk.ask("ends", 3, 10);
        talk.ask("ends", 0, 100);
        int[] sum = {2 + 30, 1 + 20, 0 + 10, 0, 0};
        for (int now = 0; now < 5; now++) {
            talk.due(sum[now], "should", 0, 1);
            talk.due(0, "should", 0, 0);
            talk.ask("run", 0, 1);
        }
    }

    private static void earliestOfSeveral() {
        Talk talk = houses("SHOULD: of several the earliest", 2, "give 1 if until>5;give 0");
        talk.ask("tie", 1, 0, 1);
        talk.ask("store", 1, 4, 99);
        talk.ask("need", 0, 4, 1, 1, 0, 95, 0);
        talk.ask("ends", 5, 1);
        talk.ask("ends", 4, 1);
        talk.ask("ends", 4, 1);
        talk.due(4, "should", 0, 0);
        talk.due(13, "should", 0, 1);
        talk.ask("ends", 9, 1);
        // Said 9, four quarters are without lack; said 4 or 5, none is.
        talk.due(9, "should", 0, 0);
        talk.due(1 + 5, "should", 0, 1);
        talk.ask("ends", 99999, 1);
        talk.due(99999, "should", 0, 0);
        talk.due(0, "should", 0, 1);
        talk.ask("ends", 200, 1);
        talk.due(200, "should", 0, 0);
        // What is said already makes no difference, and is not changed.
        talk.due(-1, "say", 0);
        talk.due(200, "should", 0, 0);
        talk.due(0, "say", -1);
    }

    private static void endsFarOffCanBeSaid() {
        Talk talk = houses("of ENDS' QUARTERS, far ones, too", 2, "give 1 if until<50;give 0");
        talk.ask("tie", 1, 0, 1);
        talk.ask("store", 1, 4, 99);
        talk.ask("need", 0, 4, 1, 1, 0, 95, 0);
        talk.ask("ends", 99999, 999);
        talk.due(99999, "should", 0, 0);
        talk.due(0, "should", 0, 1);
        talk.ask("ends", 55, 1);
        talk.due(55, "should", 0, 0);
        talk.due(6, "should", 0, 1);
    }

    private static void shouldGoesOnBeyond9999() {
        Talk talk = houses("NOW goes on beyond 9999, in SHOULD, too", 1, "give 1");
        talk.ask("need", 0, 4, 1, 1, 0, 95, 0);
        goTo(talk, 9999);
        talk.ask("ends", 10059, 1);
        talk.due(60, "should", 0, 1);
        talk.due(10059, "should", 0, 0);
        talk.ask("ends", 10060, 1);
        talk.due(60, "should", 0, 1);
        talk.due(9999, "count", 0);
    }

    private static void noEnds() {
        Talk talk = houses("-2: there are no ENDS", 1, "give 1");
        talk.due(-2, "should", 0, 0);
        talk.due(-2, "should", 0, 1);
        talk.refused(-1, "should", new int[] {1, 0}, new int[] {-1, 0}, new int[] {0, 2}, new int[] {0, -1});
        talk.due(1, "ends", 0, 1);
        talk.due(0, "should", 0, 0);
        talk.due(0, "should", 0, 1);
    }
}
