/** What a quarter does: promises 15, 18, 19, 20 and 26. */
public final class QuarterTest {
    private static final Checks CHECKS = new Checks("quarters");

    public static void main(String[] args) {
        arguments();
        makersAndBack();
        makersFeedOneAnother();
        spoils();
        order();
        ownFirst();
        wordsOfGive();
        cablesCarry();
        nearestFirst();
        holdAndClamp();
        hiddenNeeds();
        harmAndGaveGrow();
        missed();
        CHECKS.close();
    }

    private static void due(String call, long got, long want) {
        CHECKS.due(call, got, want);
    }

    private static void arguments() {
        DarkStreet x = new DarkStreet();
        x.house(0, 0, 0);
        x.need(0, 4, 2, 3, 0, 95, false);
        Checks.rule(x, "hold 0");
        due("run(1, 1)", x.run(1, 1), -1);
        due("run(-1, 1)", x.run(-1, 1), -1);
        due("run(0, 0)", x.run(0, 0), -1);
        due("run(0, 61)", x.run(0, 61), -1);
        due("run(0, -1)", x.run(0, -1), -1);
        due("nothing happened", x.count(0), 0);
        due("run(0, 60)", x.run(0, 60), 360);
        for (int i = 0; i < 165; i++) {
            due("60 more", x.run(0, 60), 360);
        }
        due("now", x.count(0), 9960);
        due("above 9999", x.run(0, 40), -1);
        due("up to 9999", x.run(0, 39), 39 * 6);
        due("now 9999", x.count(0), 9999);
        due("no more", x.run(0, 1), -1);
        due("ahead of it goes on", x.total(0, 60, 0), 360);
        due("harm", x.harm(0), 9999 * 6);
        due("harm(1)", x.harm(1), -1);
        due("harm(-1)", x.harm(-1), -1);
    }

    private static void makersAndBack() {
        DarkStreet x = new DarkStreet();
        x.house(0, 0, 0);
        Checks.rule(x, "hold 0");
        x.maker(0, 0, 999, 4, 5, 0);
        x.on(0, true);
        x.comes(0, true);
        x.store(0, 4, 99990);
        x.run(0, 1);
        due("back first, then the maker", x.of(0, 0), 9000);
        due("what it makes", x.of(0, 4), 99995);
        x.store(0, 0, 10998);
        x.run(0, 1);
        due("more than 9999 stays", x.of(0, 0), 9999);
        due("full", x.of(0, 4), 99999);
        x.run(0, 1);
        due("99999 at most", x.of(0, 4), 99999);
        x.on(0, false);
        x.comes(0, false);
        x.store(0, 0, 3);
        x.run(0, 1);
        due("off", x.of(0, 0), 3);
        x.on(0, true);
        x.run(0, 1);
        due("it has not what it eats", x.of(0, 0), 3);
    }

    private static void makersFeedOneAnother() {
        DarkStreet x = new DarkStreet();
        x.house(0, 0, 0);
        x.house(9, 0, 0);
        Checks.rule(x, "hold 0");
        x.maker(0, 3, 2, 2, 3, 0);
        x.maker(0, 2, 3, 5, 4, 0);
        x.maker(0, 4, 0, 1, 1, 0);
        for (int m = 0; m < 3; m++) {
            x.on(m, true);
        }
        x.store(0, 3, 3);
        x.run(0, 1);
        due("fuel", x.of(0, 3), 1);
        due("warm is eaten by the next", x.of(0, 2), 0);
        due("coin", x.of(0, 5), 4);
        due("one that eats none", x.of(0, 1), 1);
        due("the other house", x.of(1, 5), 0);
    }

    private static void spoils() {
        DarkStreet x = new DarkStreet();
        x.house(0, 0, 3);
        x.house(0, 0, 0);
        x.house(0, 0, 2);
        x.need(1, 1, 5, 1, 0, 95, false);
        int rule = Checks.rule(x, "spoil people*10+hour-until+house if cold>50 ; spoil 0-5 if cold<20 ;"
                + "spoil 1+good+harm+lack+own+store+tie+given+got+far");
        x.say(5);
        for (int h = 0; h < 3; h++) {
            x.store(h, 1, h == 1 ? 10 : 100);
        }
        x.run(rule, 1);
        due("by words of the house", x.of(0, 1), 100 - (30 + 0 - 5));
        due("below 0 is 0, and the need took 5", x.of(1, 1), 5);
        due("the number", x.of(2, 1), 100 - (20 - 5 + 2));
        x.store(0, 1, 50);
        x.run(rule, 1);
        due("the others are 0", x.of(0, 1), 49);
        int more = Checks.rule(x, "spoil 99999*99999");
        x.run(more, 1);
        due("all that there is", x.of(0, 1), 0);
    }

    private static void order() {
        DarkStreet x = new DarkStreet();
        x.house(0, 0, 0);
        x.store(0, 4, 10);
        x.need(0, 4, 6, 1, 0, 95, false);
        x.need(0, 4, 6, 10, 0, 95, false);
        x.need(0, 4, 6, 10, 0, 95, false);
        x.need(0, 4, 6, 100, 5, 95, false);
        int byNumber = Checks.rule(x, "hold 0");
        int byHarm = Checks.rule(x, "first harm");
        int byOwn = Checks.rule(x, "first 1 if own=9;first 2 if harm=10");
        due("by numbers", x.total(byNumber, 1, 0), 2 * 10 + 6 * 10);
        due("greater first", x.total(byHarm, 1, 0), 2 * 10 + 6);
        due("below 0", x.total(Checks.rule(x, "first 0-harm"), 1, 0), 2 * 10 + 60);
        due("as it is when they line up", x.total(byOwn, 1, 0), 2 * 10 + 6);
        x.store(0, 4, 8);
        x.maker(0, 3, 0, 4, 1, 0);
        x.on(0, true);
        // The maker brings own to 9 before they line up: all three come first alike but for harm 10.
        due("after the makers", x.total(byOwn, 1, 0), 3 * 10 + 6 * 10);
    }

    private static void ownFirst() {
        DarkStreet x = new DarkStreet();
        x.house(0, 0, 0);
        x.house(1, 0, 0);
        x.tie(1, 0, 1);
        x.store(0, 4, 3);
        x.store(1, 4, 3);
        x.need(0, 4, 5, 7, 0, 95, false);
        int rule = Checks.rule(x, "give 100");
        due("run", x.run(rule, 1), 0);
        due("own is gone", x.of(0, 4), 0);
        due("two of the other's", x.of(1, 4), 1);
        due("gave", x.gave(1, 0), 2);
        due("gave the other way", x.gave(0, 1), 0);
        due("gave to itself", x.gave(0, 0), -1);
        due("gave house 2", x.gave(0, 2), -1);
        due("gave house -1", x.gave(-1, 0), -1);
        due("run on", x.run(rule, 1), 4 * 7);
        due("harm", x.harm(0), 28);
        due("no harm", x.harm(1), 0);
    }

    /** What house 0 gets of house 1, which has 90 of water, by what it gives. */
    private static void gets(String give, long want) {
        DarkStreet x = new DarkStreet();
        x.house(0, 0, 4);
        x.house(3, 4, 8);
        x.store(0, 1, 11);
        x.store(1, 1, 12);
        x.tie(1, 0, 5);
        x.tie(0, 1, 6);
        x.store(1, 3, 9);
        x.store(0, 3, 8);
        x.need(1, 3, 17, 1, 0, 0, false);
        x.need(0, 3, 19, 1, 1, 1, false);
        int before = Checks.rule(x, "give 8");
        x.run(before, 1);
        x.store(1, 3, 2);
        x.run(before, 1);
        x.say(10);
        x.store(0, 4, 20);
        x.store(1, 4, 90);
        x.need(0, 4, 50, 13, 2, 2, false);
        x.run(Checks.rule(x, give), 1);
        CHECKS.due("by [" + give + "]", 90 - x.of(1, 4), want);
    }

    private static void wordsOfGive() {
        gets("give quarter", 2);
        gets("give 9+hour", 9);
        gets("give until", 8);
        gets("give people", 4);
        gets("give 7+house", 7);
        gets("give cold", 11);
        gets("give good", 4);
        gets("give harm", 13);
        gets("give lack", 30);
        gets("give 3+own", 3);
        gets("give lack/2", 15);
        gets("give store/5", 18);
        gets("give tie", 5);
        gets("give given", 2);
        gets("give got", 8);
        gets("give far", 7);
        gets("give 0-5", 0);
        gets("give 99999*99999", 30);
        gets("give 65536*65536*2", 30);
        gets("hold 85;give 30", 5);
        gets("hold 90;give 30", 0);
        gets("hold 95;give 30", 0);
        gets("first 3", 0);
    }

    private static void cablesCarry() {
        DarkStreet x = new DarkStreet();
        x.house(0, 0, 0);
        x.house(1, 0, 0);
        x.house(0, 2, 0);
        x.cable(1, 0, 10);
        x.tie(2, 0, 9);
        x.store(1, 0, 100);
        x.store(2, 0, 100);
        x.need(0, 0, 7, 1, 0, 0, false);
        x.need(0, 0, 7, 1, 0, 0, false);
        x.need(1, 0, 1, 1, 0, 95, false);
        int rule = Checks.rule(x, "give 9");
        due("no tie helps current, no more than the cable", x.run(rule, 1), 4);
        due("carried", x.carried(0), 10);
        due("of(1)", x.of(1, 0), 89);
        due("of(2)", x.of(2, 0), 100);
        x.run(rule, 1);
        due("carried in the last alone", x.carried(0), 0);
        // Both ways at once: what goes one way the cable can't carry the other way.
        DarkStreet y = new DarkStreet();
        y.house(0, 0, 0);
        y.house(1, 0, 0);
        y.house(2, 0, 0);
        y.cable(0, 1, 4);
        y.cable(2, 0, 5);
        y.store(1, 0, 3);
        y.need(0, 0, 3, 1, 0, 95, false);
        y.need(1, 0, 9, 1, 0, 95, false);
        y.store(2, 0, 9);
        Checks.rule(y, "give 9");
        due("first 3 come, then none is left", y.run(0, 1), 9);
        y.store(0, 0, 9);
        y.store(1, 0, 0);
        due("one way", y.run(0, 1), 5);
        due("carried", y.carried(0), 4);
        due("given", y.gave(0, 1), 4);
    }

    private static void nearestFirst() {
        DarkStreet x = new DarkStreet();
        x.house(50, 50, 0);
        x.house(50, 59, 0);
        x.house(52, 50, 0);
        x.house(49, 49, 0);
        x.house(50, 51, 0);
        for (int h = 1; h < 5; h++) {
            x.store(h, 2, 10);
            x.tie(h, 0, 1);
        }
        x.tie(4, 0, 0);
        x.tie(0, 4, 9);
        x.need(0, 2, 25, 1, 0, 95, false);
        x.run(Checks.rule(x, "give 99"), 1);
        due("one without a tie, nearest", x.of(4, 2), 10);
        due("two off, the least first", x.of(2, 2), 0);
        due("two off", x.of(3, 2), 0);
        due("the farthest", x.of(1, 2), 5);
        due("total of together", x.total(0, 1, 2), 10);
        DarkStreet y = new DarkStreet();
        y.house(50, 49, 0);
        y.house(50, 50, 0);
        y.house(51, 50, 0);
        y.house(60, 50, 0);
        for (int h = 0; h < 4; h++) {
            if (h != 1) {
                y.store(h, 2, 4);
                y.tie(h, 1, 1);
            }
        }
        y.need(1, 2, 6, 1, 0, 95, false);
        int rule = Checks.rule(y, "give lack/2+1");
        y.run(rule, 1);
        due("house 0, one off, first", y.of(0, 2), 0);
        due("then the other one off, by what is lacking still", y.of(2, 2), 2);
        due("none of the farthest", y.of(3, 2), 4);
        due("together it is gone in the first", y.total(rule, 1, 2), 0);
        due("and none is left for the second", y.total(rule, 2, 2), 6);
    }

    private static void holdAndClamp() {
        DarkStreet x = new DarkStreet();
        x.house(0, 0, 0);
        x.house(1, 0, 0);
        x.tie(1, 0, 1);
        x.store(0, 4, 4);
        x.store(1, 4, 12);
        x.need(0, 4, 5, 1, 0, 95, false);
        x.need(1, 4, 5, 1, 0, 95, false);
        x.run(Checks.rule(x, "give 9;hold 10"), 1);
        due("hold is for giving alone", x.of(1, 4), 6);
        due("harm", x.harm(0) + x.harm(1), 0);
        due("all gone but what was held", x.run(0, 1), 5);
        DarkStreet y = new DarkStreet();
        y.house(0, 0, 0);
        y.house(1, 0, 0);
        y.tie(1, 0, 1);
        y.store(1, 4, 12);
        y.need(0, 4, 5, 1, 0, 95, false);
        due("held, then a fault", Checks.rule(y, "hold 10;give"), Checks.fault(12, 0));
        due("nothing is held without hold", y.total(Checks.rule(y, "give 9"), 2, 0), 0);
    }

    private static void hiddenNeeds() {
        DarkStreet x = new DarkStreet();
        x.house(0, 0, 0);
        x.house(1, 0, 0);
        x.tie(1, 0, 1);
        x.store(0, 4, 2);
        x.store(1, 4, 12);
        x.need(0, 4, 5, 10, 0, 95, true);
        Checks.rule(x, "give 9");
        due("alone", x.total(0, 1, 1), 30);
        due("nobody gives to a hidden one", x.total(0, 1, 0), 30);
        due("together all is seen", x.total(0, 1, 2), 0);
        x.knock(0);
        due("known", x.total(0, 1, 0), 0);
        due("alone still", x.total(0, 1, 1), 30);
    }

    private static void harmAndGaveGrow() {
        DarkStreet x = new DarkStreet();
        x.house(0, 0, 0);
        x.house(1, 0, 0);
        x.tie(1, 0, 1);
        x.store(1, 4, 7);
        x.need(0, 4, 3, 999, 0, 95, false);
        Checks.rule(x, "give 2");
        due("run of 5", x.run(0, 5), 999 * (1 + 1 + 1 + 2 + 3));
        due("harm", x.harm(0), 999 * 8);
        due("gave", x.gave(1, 0), 7);
        due("nothing of ahead is kept", x.total(0, 60, 0), 999 * 180);
        due("harm", x.harm(0), 999 * 8);
    }

    private static void missed() {
        DarkStreet x = new DarkStreet();
        due("missed of a new one", x.missed(), 0);
        x.house(0, 0, 0);
        x.store(0, 4, 5);
        x.store(0, 5, 4);
        x.need(0, 5, 5, 0, 0, 0, true);
        x.need(0, 4, 5, 0, 0, 95, true);
        x.need(0, 5, 5, 0, 1, 95, true);
        x.need(0, 5, 5, 0, 0, 95, false);
        x.need(0, 2, 1, 0, 0, 1, true);
        due("missed", x.missed(), 2);
        Checks.rule(x, "hold 1");
        x.store(0, 4, 999);
        x.run(0, 1);
        due("missed a quarter later", x.missed(), 2);
        x.knock(0);
        due("all known", x.missed(), 0);
    }
}
