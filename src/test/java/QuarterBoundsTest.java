/**
 * The sentences of the document that name a boundary of what a quarter does: promises 15, 16, 18 to 20
 * and 26.
 */
public final class QuarterBoundsTest {
    private static final Checks CHECKS = new Checks("bounds of quarters");

    public static void main(String[] args) {
        runOf1To60();
        nowAbove9999();
        currentOfBack();
        hasWhatItEats();
        madeAtMost();
        makersByTheirNumbers();
        spoilHeld();
        othersAre0InSpoil();
        greaterFirstAhead();
        asItIsThen();
        hasWhatItsHouseHas();
        lacksMore();
        nearestFirst();
        cableOrTie();
        lessHold();
        giveHeld();
        lackingStill();
        whatTheCableCanCarry();
        carriedLast();
        harmOfItsHouse();
        harmBeyond32Bits();
        kinds();
        missed();
        fullStreet();
        CHECKS.close();
    }

    private static Talk houses(String about, int n, String rule) {
        return Talk.street(CHECKS, about, n, rule);
    }

    private static void runOf1To60() {
        Talk talk = houses("So many QUARTERS (1 to 60)", 1, "hold 0");
        talk.ask("need", 0, 4, 1, 1, 0, 95, 0);
        talk.refused(-1, "run", new int[] {0, 0}, new int[] {0, -1}, new int[] {0, 61}, new int[] {1, 1},
                new int[] {-1, 1});
        talk.due(1, "run", 0, 1);
        talk.due(1, "count", 0);
        talk.due(60, "run", 0, 60);
        talk.due(61, "count", 0);
        talk.due(61, "harm", 0);
    }

    private static void nowAbove9999() {
        Talk talk = houses("NONE, and nothing happens, if NOW would be above 9999", 1, "hold 0;spoil 1 if quarter>9999");
        talk.ask("need", 0, 4, 1, 1, 0, 95, 0);
        talk.ask("store", 0, 1, 50);
        for (int i = 0; i < 166; i++) {
            talk.due(60, "run", 0, 60);
        }
        talk.due(9960, "count", 0);
        talk.due(-1, "run", 0, 60);
        talk.due(-1, "run", 0, 40);
        talk.due(9960, "count", 0);
        talk.due(9960, "harm", 0);
        talk.due(38, "run", 0, 38);
        talk.due(-1, "run", 0, 2);
        talk.due(9998, "count", 0);
        talk.due(1, "run", 0, 1);
        talk.due(9999, "count", 0);
        talk.due(-1, "run", 0, 1);
        talk.due(9999, "count", 0);
        talk.due(9999, "harm", 0);
        talk.due(50, "of", 0, 1);
        // What would come goes on beyond it: hour, day and all.
        talk.due(60, "total", 0, 60, 0);
        talk.due(2, "cook", 0, 0, 50);
        talk.due(9999, "image", 0);
        talk.due(9999, "back", 0);
    }

    private static void currentOfBack() {
        Talk talk = houses("HOUSES that are BACK have 9999 of current, if it is less", 6, "hold 0");
        int[] current = {0, 9998, 9999, 10000, 99999, 9998};
        int[] then = {9999, 9999, 9999, 10000, 99999, 9998};
        for (int h = 0; h < 6; h++) {
            talk.ask("store", h, 0, current[h]);
            if (h < 5) {
                talk.due(1, "comes", h, 1);
                talk.due(current[h], "of", h, 0);
            }
        }
        talk.ask("run", 0, 1);
        for (int h = 0; h < 6; h++) {
            talk.due(then[h], "of", h, 0);
        }
        talk.due(1, "comes", 0, 0);
        talk.due(9999, "store", 0, 0, 3);
        talk.ask("run", 0, 1);
        talk.due(3, "of", 0, 0);
    }

    private static void hasWhatItEats() {
        Talk talk = houses("if the HOUSE has what it eats, that goes", 4, "hold 0");
        for (int h = 0; h < 4; h++) {
            talk.ask("maker", h, 3, h == 3 ? 0 : 5, 2, 7, 0);
            talk.ask("store", h, 3, h == 3 ? 0 : 4 + h);
            talk.ask("on", h, 1);
        }
        talk.ask("run", 0, 1);
        int[] fuel = {4, 0, 1, 0};
        int[] warm = {0, 7, 7, 7};
        for (int h = 0; h < 4; h++) {
            talk.due(fuel[h], "of", h, 3);
            talk.due(warm[h], "of", h, 2);
        }
        talk.ask("on", 3, 0);
        talk.ask("run", 0, 1);
        talk.due(7, "of", 3, 2);
        talk.due(7, "of", 2, 2);
        Talk most = houses("eats 999, makes 999", 1, "hold 0");
        most.ask("maker", 0, 3, 999, 2, 999, 0);
        most.ask("on", 0, 1);
        most.ask("store", 0, 3, 998);
        most.ask("run", 0, 1);
        most.due(998, "of", 0, 3);
        most.ask("store", 0, 3, 999);
        most.ask("run", 0, 1);
        most.due(0, "of", 0, 3);
        most.due(999, "of", 0, 2);
    }

    private static void madeAtMost() {
        Talk talk = houses("what it makes comes (99999 at most)", 4, "hold 0");
        int[] coin = {99991, 99992, 99993, 99999};
        int[] then = {99998, 99999, 99999, 99999};
        for (int h = 0; h < 4; h++) {
            talk.ask("maker", h, 3, 2, 5, 7, 0);
            talk.ask("store", h, 3, 2);
            talk.ask("store", h, 5, coin[h]);
            talk.ask("on", h, 1);
        }
        talk.ask("run", 0, 1);
        for (int h = 0; h < 4; h++) {
            talk.due(then[h], "of", h, 5);
            talk.due(0, "of", h, 3);
        }
    }

    private static void makersByTheirNumbers() {
        Talk talk = houses("MAKERS that are ON, by their numbers", 1, "hold 0");
        talk.ask("maker", 0, 2, 1, 5, 1, 0);
        talk.ask("maker", 0, 3, 1, 2, 1, 0);
        talk.ask("maker", 0, 2, 1, 4, 1, 0);
        for (int m = 0; m < 3; m++) {
            talk.ask("on", m, 1);
        }
        talk.ask("store", 0, 3, 1);
        talk.ask("run", 0, 1);
        talk.due(0, "of", 0, 5);
        talk.due(1, "of", 0, 4);
        talk.due(0, "of", 0, 2);
        Talk back = houses("first the current of BACK, then MAKERS", 1, "hold 0");
        back.ask("maker", 0, 0, 999, 4, 1, 0);
        back.ask("on", 0, 1);
        back.ask("comes", 0, 1);
        back.ask("run", 0, 1);
        back.due(9000, "of", 0, 0);
        back.due(1, "of", 0, 4);
    }

    private static void spoilHeld() {
        String[] spoil = {"0", "0-1", "1", "9", "10", "11", "99999", "99999*99999", "65536*65536", "65536*65536+1",
            "65536*65536*65536*32768", "65536*65536*65536*32768-1", "0-99999*99999", "cold", "cold+1", "cold-1"};
        int[] left = {10, 10, 9, 1, 0, 0, 0, 0, 0, 0, 10, 0, 10, 0, 0, 1};
        for (int i = 0; i < spoil.length; i++) {
            Talk talk = houses("cold is less by spoil (held to 0 to what there is): " + spoil[i], 1,
                    "spoil " + spoil[i]);
            talk.ask("store", 0, 1, 10);
            talk.ask("run", 0, 1);
            talk.due(left[i], "of", 0, 1);
        }
        Talk none = houses("0 without spoil", 1, "give 3");
        none.ask("store", 0, 1, 10);
        none.ask("run", 0, 1);
        none.due(10, "of", 0, 1);
        Talk empty = houses("spoil where nothing is", 1, "spoil 5");
        empty.ask("run", 0, 1);
        empty.due(0, "of", 0, 1);
        Talk full = houses("all of 99999", 1, "spoil 99999");
        full.ask("store", 0, 1, 99999);
        full.ask("run", 0, 1);
        full.due(0, "of", 0, 1);
    }

    private static void othersAre0InSpoil() {
        for (String word : new String[] {"good", "harm", "lack", "own", "store", "tie", "given", "got", "far"}) {
            Talk talk = houses("In spoil the others 0: " + word, 3, "spoil 1+" + word + ";give 9;first " + word);
            for (int h = 0; h < 3; h++) {
                talk.ask("store", h, 1, 50);
                talk.ask("need", h, 1, h == 1 ? 49 : 1, 3, 0, 95, 0);
                talk.ask("tie", h, (h + 1) % 3, 3);
                talk.ask("tie", (h + 1) % 3, h, 4);
            }
            talk.ask("run", 0, 1);
            talk.ask("store", 1, 1, 20);
            // House 1 lacks now and is given: words of needs and of givers have been told.
            talk.ask("run", 0, 1);
            talk.due(9, "gave", 0, 1);
            if ("store tie given got far".contains(word)) {
                // In first those of one who gives 0.
                talk.due(0, "ahead", 0, 1);
            }
            for (int h = 0; h < 3; h++) {
                talk.ask("store", h, 1, 99);
            }
            talk.ask("run", 0, 1);
            talk.due(99 - 1 - 1, "of", 2, 1);
        }
    }

    private static void greaterFirstAhead() {
        String least = "65536*65536*65536*32768";
        // Two needs of one each, of which but one can be met: the harm of the other is left.
        orderBy("first 0", 20);
        orderBy("hold 0", 20);
        orderBy("first harm", 10);
        orderBy("first 0-harm", 20);
        orderBy("first 1 if harm=20", 10);
        orderBy("first 1 if harm=10", 20);
        orderBy("first 0-1 if harm=10", 10);
        orderBy("first " + least + " if harm=10;first " + least + "-1", 10);
        orderBy("first " + least + "-1 if harm=10;first " + least, 20);
        orderBy("first " + least + " if harm=10;first " + least + "+1", 10);
        orderBy("first 65536*65536 if harm=20", 10);
        orderBy("first 65536*65536*65536 if harm=20;first 99999", 10);
        Talk talk = houses("alike: by their numbers", 1, "first 3");
        for (int n = 0; n < 40; n++) {
            talk.due(n, "need", 0, 4, 1, n, 0, 95, 0);
        }
        talk.ask("store", 0, 4, 10);
        // The first ten have theirs.
        talk.due(40 * 39 / 2 - 10 * 9 / 2, "total", 0, 1, 0);
        talk.rule("first harm");
        talk.due(30 * 29 / 2, "total", 1, 1, 0);
        talk.rule("first harm/10");
        talk.due(30 * 29 / 2, "total", 2, 1, 0);
        talk.rule("first 1 if harm/2*2=harm");
        talk.due(40 * 39 / 2 - 2 * (10 * 9 / 2), "total", 3, 1, 0);
    }

    private static void orderBy(String rule, int harm) {
        Talk talk = houses("those with a greater first ahead: " + rule, 1, rule);
        talk.ask("need", 0, 4, 1, 10, 0, 95, 0);
        talk.ask("need", 0, 4, 1, 20, 0, 95, 0);
        talk.ask("store", 0, 4, 1);
        for (int kind = 0; kind < 3; kind++) {
            talk.due(harm, "total", 0, 1, kind);
        }
    }

    private static void asItIsThen() {
        // Behind the makers and what spoils, before the first need has anything.
        Talk talk = houses("of all as it is then", 1, "spoil 4;first 9 if harm=20 and own=6 and lack=5;first 5 if harm=10");
        talk.ask("need", 0, 1, 5, 10, 0, 95, 0);
        talk.ask("need", 0, 1, 5, 20, 0, 95, 0);
        talk.ask("maker", 0, 3, 0, 1, 3, 0);
        talk.ask("on", 0, 1);
        talk.ask("store", 0, 1, 7);
        talk.due(4 * 10, "total", 0, 1, 0);
        talk.ask("store", 0, 1, 8);
        talk.due(3 * 20, "total", 0, 1, 0);
    }

    private static void hasWhatItsHouseHas() {
        int[] has = {0, 1, 4, 5, 6};
        for (int i = 0; i < has.length; i++) {
            Talk talk = houses("it has what its HOUSE has, as far as it lacks that", 2, "give 9");
            talk.ask("need", 0, 2, 5, 1, 0, 95, 0);
            talk.ask("store", 0, 2, has[i]);
            talk.ask("store", 1, 2, 99);
            talk.due(Math.max(0, 5 - has[i]), "run", 0, 1);
            talk.due(Math.max(0, has[i] - 5), "of", 0, 2);
            talk.due(99, "of", 1, 2);
        }
        Talk most = houses("how much in a QUARTER (1 to 999), harm (0 to 999)", 1, "hold 0");
        most.ask("need", 0, 2, 999, 999, 0, 0, 0);
        most.ask("need", 0, 3, 1, 0, 0, 0, 0);
        most.due(999 * 999, "run", 0, 1);
        most.due(0, "run", 0, 1);
    }

    private static void lacksMore() {
        for (int has = 4; has <= 6; has++) {
            Talk talk = houses("If it is KNOWN and lacks more", 2, "give 9");
            talk.ask("need", 0, 2, 5, 1, 0, 95, 0);
            talk.ask("tie", 1, 0, 1);
            talk.ask("store", 0, 2, has);
            talk.ask("store", 1, 2, 9);
            talk.due(0, "run", 0, 1);
            talk.due(has < 5 ? 1 : 0, "gave", 1, 0);
        }
        Talk hidden = houses("hidden, then KNOWN", 2, "give 9");
        hidden.ask("need", 0, 2, 5, 1, 0, 95, 1);
        hidden.ask("tie", 1, 0, 1);
        hidden.ask("store", 0, 2, 1);
        hidden.ask("store", 1, 2, 9);
        hidden.due(4, "run", 0, 1);
        hidden.due(0, "of", 0, 2);
        hidden.due(9, "of", 1, 2);
        hidden.due(1, "knock", 0);
        hidden.due(0, "run", 0, 1);
        hidden.due(4, "of", 1, 2);
    }

    private static void nearestFirst() {
        Talk talk = new Talk(CHECKS, "nearest by FAR first, of several the least");
        int[][] at = {{50, 50}, {50, 53}, {52, 51}, {47, 50}, {51, 50}, {50, 54}, {99, 99}, {0, 0}};
        for (int[] xy : at) {
            talk.ask("house", xy[0], xy[1], 0);
        }
        talk.rule("give 99");
        for (int h = 1; h < at.length; h++) {
            talk.ask("tie", h, 0, 1);
            talk.ask("store", h, 2, 10);
        }
        // 4 is one off; 1, 2 and 3 are three, 5 four, 6 98, 7 100.
        int[] order = {4, 1, 2, 3, 5, 6, 7};
        for (int i = 0; i < order.length; i++) {
            talk.ask("image", 0);
            talk.ask("need", 0, 2, 10 * i + 5, 1, 0, 0, 0);
            talk.due(0, "run", 0, 1);
            for (int k = 0; k < order.length; k++) {
                talk.due(k < i ? 0 : k == i ? 5 : 10, "of", order[k], 2);
            }
            talk.ask("back", 0);
        }
    }

    private static void cableOrTie() {
        Talk talk = houses("of current those to which there is a CABLE, of another GOOD those whose TIE is above 0", 3,
                "give 99");
        for (int good = 0; good < 6; good++) {
            talk.ask("need", 0, good, 2, 1, good, good, 0);
            talk.ask("store", 1, good, 9);
            talk.ask("store", 2, good, 9);
        }
        talk.ask("tie", 2, 0, 1);
        talk.ask("tie", 0, 1, 9);
        talk.ask("tie", 1, 2, 9);
        talk.ask("cable", 0, 1, 9);
        talk.due(0, "run", 0, 6);
        talk.due(2, "gave", 1, 0);
        talk.due(10, "gave", 2, 0);
        talk.due(7, "of", 1, 0);
        talk.due(9, "of", 2, 0);
        for (int good = 1; good < 6; good++) {
            talk.due(9, "of", 1, good);
            talk.due(7, "of", 2, good);
        }
        talk.ask("tie", 2, 0, 0);
        talk.ask("run", 0, 60);
        talk.ask("run", 0, 30);
        talk.due(10, "run", 0, 6);
        talk.due(4, "gave", 1, 0);
        talk.due(10, "gave", 2, 0);
    }

    private static void lessHold() {
        int[] store = {0, 4, 5, 6, 7, 8, 99};
        int[] gift = {0, 0, 0, 1, 2, 3, 3};
        for (int good = 0; good < 6; good += 4) {
            for (int i = 0; i < store.length; i++) {
                Talk talk = houses("of its STORE less hold (0 at least)", 2, "give 99;hold 5");
                talk.ask("tie", 1, 0, 1);
                talk.ask("cable", 1, 0, 99);
                talk.ask("need", 0, good, 3, 1, 0, 95, 0);
                talk.ask("store", 1, good, store[i]);
                talk.due(3 - gift[i], "run", 0, 1);
                talk.due(store[i] - gift[i], "of", 1, good);
            }
        }
    }

    private static void giveHeld() {
        String[] give = {"0-1", "0", "1", "2", "3", "4", "99999", "99999*99999", "65536*65536", "65536*65536*65536*32768",
            "65536*65536*65536*32768-1", "1 if 2<1", "0-99999*99999"};
        int[] gift = {0, 0, 1, 2, 3, 3, 3, 3, 3, 0, 3, 0, 0};
        for (int i = 0; i < give.length; i++) {
            Talk talk = houses("at most what give tells (held to 0 to 99999): " + give[i], 2, "give " + give[i]);
            talk.ask("tie", 1, 0, 1);
            talk.ask("need", 0, 4, 3, 1, 0, 95, 0);
            talk.ask("store", 1, 4, 9);
            talk.due(3 - gift[i], "run", 0, 1);
            talk.due(gift[i], "gave", 1, 0);
            talk.due(0, "gave", 0, 1);
            talk.due(9 - gift[i], "of", 1, 4);
        }
    }

    private static void lackingStill() {
        Talk talk = houses("in give lack what is lacking still; given and got so far", 4, "give 2+given-got if lack>3;give 1");
        for (int h = 1; h < 4; h++) {
            talk.ask("tie", h, 0, 1);
            talk.ask("store", h, 4, 9);
        }
        talk.ask("store", 0, 4, 3);
        talk.ask("need", 0, 4, 9, 1, 0, 0, 0);
        talk.ask("need", 0, 4, 5, 1, 0, 0, 0);
        // 9 less 3 of its own: 2 of house 1, 2 of house 2 at 4 still lacking, 1 of house 3 at 2; then 4 at 5, 1 at 1.
        talk.due(1, "run", 0, 1);
        talk.due(2 + 4, "gave", 1, 0);
        talk.due(2 + 1, "gave", 2, 0);
        talk.due(1, "gave", 3, 0);
        talk.due(0, "of", 0, 4);
    }

    private static void whatTheCableCanCarry() {
        Talk talk = houses("at most what the CABLE can still carry in this QUARTER", 3, "give 99");
        talk.ask("cable", 1, 0, 5);
        talk.ask("store", 1, 0, 100);
        talk.ask("need", 0, 0, 4, 1, 0, 0, 0);
        talk.ask("need", 0, 0, 4, 1, 1, 1, 0);
        talk.ask("need", 0, 0, 1, 1, 1, 1, 0);
        talk.ask("need", 0, 0, 4, 1, 2, 2, 0);
        talk.ask("need", 0, 0, 2, 1, 2, 2, 0);
        talk.ask("need", 0, 0, 1, 1, 2, 2, 0);
        talk.due(0, "run", 0, 1);
        talk.due(4, "carried", 0);
        talk.due(0, "run", 0, 1);
        talk.due(5, "carried", 0);
        talk.due(2, "run", 0, 1);
        talk.due(5, "carried", 0);
        talk.due(86, "of", 1, 0);
        Talk both = houses("one CABLE both ways", 2, "give 99;first harm");
        both.ask("cable", 0, 1, 1);
        both.ask("need", 0, 0, 1, 9, 0, 95, 0);
        both.ask("need", 1, 0, 2, 1, 0, 95, 0);
        both.ask("store", 1, 0, 2);
        both.due(1, "run", 0, 1);
        both.due(1, "carried", 0);
        both.ask("store", 0, 0, 9);
        both.due(1, "run", 0, 1);
        both.due(1, "gave", 0, 1);
        both.due(1, "gave", 1, 0);
        Talk each = houses("each CABLE for itself, whichever HOUSE was told first", 4, "give 99");
        int[][] ends = {{0, 1, 2}, {0, 2, 5}, {3, 0, 4}, {2, 1, 9}};
        for (int[] cable : ends) {
            each.ask("cable", cable[0], cable[1], cable[2]);
        }
        for (int h = 1; h < 4; h++) {
            each.ask("store", h, 0, 50);
        }
        each.ask("need", 0, 0, 20, 1, 0, 95, 0);
        each.ask("need", 1, 0, 57, 1, 0, 95, 0);
        // 0 has 2 of house 1, 5 of house 2 and 4 of house 3; of the 9 that 1 lacks then 0 has none, 2 has all.
        each.due(20 - 2 - 5 - 4, "run", 0, 1);
        int[] carried = {2, 5, 4, 9};
        for (int c = 0; c < 4; c++) {
            each.due(carried[c], "carried", c);
        }
        each.due(4, "gave", 3, 0);
        each.due(0, "gave", 3, 1);
        Talk most = houses("carry (1 to 9999)", 2, "give 9999");
        most.ask("cable", 0, 1, 9999);
        most.ask("store", 1, 0, 99999);
        for (int n = 0; n < 11; n++) {
            most.ask("need", 0, 0, 999, 1, 0, 95, 0);
        }
        most.due(11 * 999 - 9999, "run", 0, 1);
        most.due(9999, "carried", 0);
        most.due(9999, "gave", 1, 0);
    }

    private static void carriedLast() {
        Talk talk = houses("What a CABLE carried in the QUARTER that went by last", 3, "give 99");
        talk.ask("cable", 1, 0, 5);
        talk.due(0, "carried", 0);
        talk.due(-1, "carried", 1);
        talk.ask("store", 1, 0, 100);
        talk.ask("need", 0, 0, 3, 1, 0, 0, 0);
        talk.ask("need", 0, 0, 2, 1, 1, 1, 0);
        talk.ask("total", 0, 1, 0);
        talk.due(0, "carried", 0);
        talk.ask("run", 0, 1);
        talk.due(3, "carried", 0);
        talk.ask("cable", 2, 0, 5);
        talk.due(0, "carried", 1);
        talk.ask("total", 0, 1, 0);
        talk.due(3, "carried", 0);
        talk.ask("run", 0, 1);
        talk.due(2, "carried", 0);
        talk.ask("run", 0, 1);
        talk.due(0, "carried", 0);
        talk.ask("run", 0, 60);
        talk.ask("run", 0, 34);
        talk.due(3, "carried", 0);
        talk.ask("image", 0);
        talk.ask("run", 0, 2);
        talk.due(0, "carried", 0);
        talk.ask("back", 0);
        talk.due(3, "carried", 0);
    }

    private static void harmOfItsHouse() {
        Talk talk = houses("What is lacking then times harm is HARM of its HOUSE", 3, "give 1");
        talk.ask("need", 0, 4, 3, 7, 0, 95, 0);
        talk.ask("need", 1, 4, 2, 5, 0, 95, 1);
        talk.ask("need", 1, 5, 2, 0, 0, 95, 0);
        talk.ask("tie", 2, 0, 1);
        talk.ask("store", 2, 4, 1);
        talk.due(2 * 7 + 2 * 5, "run", 0, 1);
        talk.due(14, "harm", 0);
        talk.due(10, "harm", 1);
        talk.due(0, "harm", 2);
        talk.due(21 + 10, "run", 0, 1);
        talk.due(35, "harm", 0);
        talk.due(2, "count", 0);
    }

    private static void harmBeyond32Bits() {
        Talk talk = houses("HARM beyond 32 bits", 1, "give 1");
        for (int n = 0; n < 40; n++) {
            talk.ask("need", 0, 4, 999, 999, 0, 95, n % 2);
        }
        long harm = 40L * 999 * 999;
        talk.due(60 * harm, "total", 0, 60, 0);
        talk.due(60 * harm, "alone", 0, 60, 1, 0);
        talk.due(0, "lost", 0, 60);
        talk.due(60 * harm, "run", 0, 60);
        talk.due(60 * harm, "run", 0, 60);
        talk.due(120 * harm, "harm", 0);
        talk.ask("ends", 180, 999);
        talk.due(999 * 60 * harm, "should", 0, 1);
    }

    private static void kinds() {
        Talk talk = houses("KINDS of sharing: 0 by the RULE; 1 nobody gives; 2 each other HOUSE gives all it has", 3,
                "give 2;hold 9");
        talk.ask("cable", 0, 1, 1);
        talk.ask("tie", 1, 0, 1);
        talk.ask("store", 1, 0, 20);
        talk.ask("store", 2, 0, 3);
        talk.ask("store", 1, 4, 10);
        talk.ask("store", 2, 4, 1);
        talk.ask("need", 0, 0, 23, 1, 0, 95, 0);
        talk.ask("need", 0, 4, 12, 100, 0, 95, 1);
        talk.due(22 + 1200, "total", 0, 1, 0);
        talk.due(23 + 1200, "total", 0, 1, 1);
        talk.due(0 + 100, "total", 0, 1, 2);
        talk.due(23 + 100 + 1200, "total", 0, 2, 2);
        talk.due(1222 - 100, "lost", 0, 1);
        talk.due(1, "knock", 0);
        talk.due(22 + 1100, "total", 0, 1, 0);
        talk.due(23 + 1200, "total", 0, 1, 1);
        // Where nearest goes first, the farther ones keep theirs for the next.
        Talk near = houses("TOGETHER, too, nearest first", 3, "give 0");
        near.ask("store", 1, 4, 5);
        near.ask("store", 2, 4, 5);
        near.ask("need", 0, 4, 5, 1, 0, 0, 0);
        near.ask("need", 2, 4, 5, 1, 0, 0, 0);
        near.due(0, "total", 0, 1, 2);
        near.ask("need", 1, 4, 1, 1, 0, 0, 0);
        near.due(1, "alone", 0, 1, 2, 1);
    }

    private static void missed() {
        int[] has = {0, 4, 5, 6};
        for (int i = 0; i < has.length; i++) {
            Talk talk = houses("MISSED: hidden NEEDS not KNOWN that are DUE now and whose HOUSE has not enough", 2, "hold 0");
            talk.ask("store", 0, 4, has[i]);
            talk.ask("store", 1, 4, 99);
            talk.ask("tie", 1, 0, 9);
            talk.ask("need", 0, 4, 5, 0, 1, 2, 1);
            talk.ask("need", 0, 4, 5, 9, 0, 95, 0);
            talk.due(0, "missed");
            int[] due = {0, 1, 1, 0};
            for (int now = 0; now < 4; now++) {
                talk.due(has[i] < 5 ? due[now] : 0, "missed");
                talk.ask("run", 0, 1);
                talk.ask("store", 0, 4, has[i]);
            }
            talk.ask("run", 0, 60);
            talk.ask("run", 0, 33);
            talk.ask("store", 0, 4, has[i]);
            talk.due(97, "count", 0);
            talk.due(has[i] < 5 ? 1 : 0, "missed");
            talk.due(0, "knock", 1);
            talk.due(has[i] < 5 ? 1 : 0, "missed");
            talk.due(1, "knock", 0);
            talk.due(0, "missed");
        }
        Talk full = houses("forty of them", 1, "hold 0");
        for (int n = 0; n < 40; n++) {
            full.ask("need", 0, 5, 1, 0, 0, 95, 1);
        }
        full.due(40, "missed");
        full.ask("store", 0, 5, 1);
        full.due(0, "missed");
    }

    /** All that there can be of all at once. */
    private static void fullStreet() {
        Talk talk = houses("a full street", 12, "give 99");
        int cables = 0;
        for (int one = 0; one < 2; one++) {
            for (int other = one + 1; other < 12 && cables < 20; other++) {
                talk.due(cables, "cable", one, other, 1 + cables);
                cables++;
            }
        }
        for (int h = 0; h < 12; h++) {
            talk.due(h, "maker", h, 4, 0, 5, 1, 0);
            talk.due(1, "on", h, 1);
            talk.ask("store", h, 0, 100);
            talk.ask("store", h, 1, 100);
            talk.ask("tie", h, 11, h == 11 ? 0 : 1);
        }
        for (int n = 0; n < 39; n++) {
            talk.due(n, "need", n % 12, 1, 1, 1, 0, 95, 0);
        }
        talk.due(39, "need", 11, 0, 999, 1, 0, 95, 0);
        // House 0 gives by cable 10, which carries 11; house 1 by none: cable 20 would be theirs.
        talk.due(999 - 100 - 11, "run", 0, 1);
        talk.due(11, "carried", 10);
        talk.due(0, "carried", 19);
        talk.due(11, "gave", 0, 11);
        for (int h = 0; h < 12; h++) {
            talk.due(1, "of", h, 5);
            talk.due(h < 3 ? 96 : 97, "of", h, 1);
            talk.due(h == 0 ? 89 : h == 11 ? 0 : 100, "of", h, 0);
            talk.due(h == 11 ? 888 : 0, "harm", h);
        }
        talk.due(999 - 11, "run", 0, 1);
        talk.due(22, "owes", 11, 0);
        talk.due(11, "debtor");
    }
}
