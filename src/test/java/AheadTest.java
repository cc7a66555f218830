/** What would come: promises 22 to 31. */
public final class AheadTest {
    private static final Checks CHECKS = new Checks("ahead");

    public static void main(String[] args) {
        totals();
        helps();
        cooks();
        commons();
        shoulds();
        CHECKS.close();
    }

    private static void due(String call, long got, long want) {
        CHECKS.due(call, got, want);
    }

    /** Two houses, the second of which gives the first one water by a tie. */
    private static DarkStreet two() {
        DarkStreet x = new DarkStreet();
        x.house(0, 0, 0);
        x.house(5, 0, 0);
        x.tie(1, 0, 3);
        x.store(1, 4, 10);
        x.need(0, 4, 3, 2, 0, 95, false);
        x.need(1, 4, 1, 5, 0, 95, false);
        Checks.rule(x, "give 1");
        return x;
    }

    private static void totals() {
        DarkStreet x = two();
        due("total of none", x.total(0, 0, 0), 0);
        due("by the rule", x.total(0, 2, 0), 8);
        due("alone", x.total(0, 2, 1), 12);
        due("together", x.total(0, 2, 2), 0);
        due("six quarters", x.total(0, 6, 0), 5 * 4 + 6 + 5);
        due("alone of house 1", x.alone(0, 6, 0, 1), 5);
        due("alone of house 0", x.alone(0, 6, 0, 0), 26);
        due("kind 1 of house 1", x.alone(0, 11, 1, 1), 5);
        due("lost", x.lost(0, 2), 8);
        due("lost of none", x.lost(0, 0), 0);
        due("lost can be below 0", x.lost(0, 6), 31 - x.total(0, 6, 2));
        x.run(0, 1);
        due("from now on", x.alone(0, 6, 0, 0), 4 * 4 + 2 * 6);
        due("total(60)", x.total(0, 60, 1) >= 0 ? 1 : 0, 1);
        int[][] wrong = {{1, 1, 0}, {-1, 1, 0}, {0, -1, 0}, {0, 61, 0}, {0, 1, -1}, {0, 1, 3}};
        for (int[] w : wrong) {
            due("total wrong", x.total(w[0], w[1], w[2]), -1);
            due("alone wrong", x.alone(w[0], w[1], w[2], 0), -1);
            if (w[2] == 0) {
                due("lost wrong", x.lost(w[0], w[1]), -1000000000000L);
            }
        }
        due("alone house 2", x.alone(0, 1, 0, 2), -1);
        due("alone house -1", x.alone(0, 1, 0, -1), -1);
        due("alone of none", x.alone(0, 0, 0, 1), 0);
    }

    private static void helps() {
        DarkStreet x = new DarkStreet();
        Checks.rule(x, "give 9");
        due("no houses", x.helps(0, 1, 0), -2);
        x.house(0, 0, 0);
        x.house(1, 0, 0);
        x.house(2, 0, 0);
        x.need(0, 0, 2, 10, 0, 95, false);
        x.need(1, 0, 2, 10, 0, 95, false);
        x.need(2, 0, 2, 10, 1, 95, false);
        x.cable(1, 2, 1);
        due("the least of several", x.helps(0, 1, 0), 0);
        due("harm then", x.helps(0, 1, 1), 20);
        due("later another one", x.helps(0, 3, 0), 1);
        due("its harm then", x.helps(0, 3, 1), 60 + 10 * 2);
        due("of none", x.helps(0, 0, 1), 0);
        due("nobody came", x.of(0, 7) + x.of(1, 7), 0);
        x.comes(1, true);
        due("one that is back can't", x.helps(0, 3, 0), 0);
        x.comes(0, true);
        due("the last", x.helps(0, 20, 0), 2);
        x.comes(2, true);
        due("all are back", x.helps(0, 3, 0), -2);
        due("all are back, harm", x.helps(0, 3, 1), -2);
        due("rule", x.helps(1, 3, 0), -1);
        due("rule -1", x.helps(-1, 3, 0), -1);
        due("n 21", x.helps(0, 21, 0), -1);
        due("n -1", x.helps(0, -1, 0), -1);
        due("what 2", x.helps(0, 3, 2), -1);
        due("what -1", x.helps(0, 3, -1), -1);
    }

    private static void cooks() {
        DarkStreet x = new DarkStreet();
        x.house(0, 0, 2);
        x.house(0, 0, 0);
        x.store(0, 1, 100);
        x.store(1, 1, 500);
        x.need(0, 1, 50, 1, 0, 95, false);
        x.maker(0, 2, 0, 1, 500, 0);
        x.on(0, true);
        int tenth = Checks.rule(x, "spoil cold/10");
        due("now", x.cook(tenth, 0, 101), 0);
        due("one", x.cook(tenth, 0, 100), 1);
        due("it spoils alone", x.cook(tenth, 0, 73), 4);
        int late = Checks.rule(x, "spoil 5 if hour>=2");
        due("now goes on", x.cook(late, 0, 100), 9);
        due("more than it lacks", x.cook(late, 0, 90), 11);
        int said = Checks.rule(x, "spoil 3 if until=0");
        due("nothing said", x.cook(said, 0, 100), -2);
        x.say(2);
        due("until goes on", x.cook(said, 0, 100), 3);
        int one = Checks.rule(x, "spoil 1");
        due("400 at most", x.cook(one, 1, 101), 400);
        due("beyond", x.cook(one, 1, 100), -2);
        due("to the last", x.cook(one, 0, 1), 100);
        int people = Checks.rule(x, "spoil people*5");
        due("its people", x.cook(people, 0, 81), 2);
        due("no people", x.cook(people, 1, 81), -2);
        x.run(one, 1);
        due("by what is there", x.cook(one, 1, 499), 1);
        int[][] wrong = {{5, 0, 1}, {-1, 0, 1}, {0, 2, 1}, {0, -1, 1}, {0, 0, 0}, {0, 0, 100000}};
        for (int[] w : wrong) {
            due("cook wrong", x.cook(w[0], w[1], w[2]), -1);
        }
        due("cook 99999", x.cook(0, 0, 99999), 0);
        for (int i = 0; i < 166; i++) {
            x.run(one, 60);
        }
        x.store(1, 1, 500);
        int behind = Checks.rule(x, "spoil 2 if quarter>9999");
        due("beyond 9999", x.cook(behind, 1, 500), 9999 - x.count(0) + 2);
    }

    private static void commons() {
        DarkStreet x = new DarkStreet();
        x.house(0, 0, 0);
        x.house(9, 9, 0);
        int rule = Checks.rule(x, "hold 0");
        due("no items", x.common(rule, 0, 5, 0), 0);
        x.need(0, 4, 2, 3, 0, 95, false);
        x.need(1, 4, 2, 2, 0, 95, false);
        due("no items, harm", x.common(rule, 0, 5, 1), 50);
        due("item house", x.item(2, 4, 1, 1), -1);
        due("item house -1", x.item(-1, 4, 1, 1), -1);
        due("item good", x.item(0, 6, 1, 1), -1);
        due("item good -1", x.item(0, -1, 1, 1), -1);
        due("item n 0", x.item(0, 4, 0, 1), -1);
        due("item n 100000", x.item(0, 4, 100000, 1), -1);
        due("item price -1", x.item(0, 4, 1, -1), -1);
        due("item price 10000", x.item(0, 4, 1, 10000), -1);
        due("item 1", x.item(1, 4, 10, 5), 1);
        due("item 2", x.item(0, 4, 10, 6), 2);
        due("item 3", x.item(0, 4, 5, 2), 3);
        due("item 4", x.item(0, 4, 5, 3), 4);
        due("item 5", x.item(0, 4, 99999, 5), 5);
        due("item 6", x.item(0, 5, 1, 9999), 6);
        due("six items", x.count(6), 6);
        due("item 7", x.item(0, 5, 1, 1), -1);
        due("no coins", x.common(rule, 0, 5, 0), 0);
        due("of those with one harm and price the least number", x.common(rule, 6, 5, 0), 12);
        due("its harm", x.common(rule, 6, 5, 1), 20);
        due("two houses", x.common(rule, 10, 5, 0), 13);
        due("no harm is left", x.common(rule, 10, 5, 1), 0);
        due("the least price of several", x.common(rule, 99999, 5, 0), 13);
        due("the one that helps most", x.common(rule, 5, 20, 0), 16);
        due("fewer quarters, a cheaper one", x.common(rule, 99999, 1, 0), 5);
        due("for none none", x.common(rule, 99999, 0, 0), 0);
        due("20 quarters", x.common(rule, 99999, 20, 1), 20 * 4 - 20);
        due("stores are as they were", x.of(0, 4), 0);
        x.store(0, 4, 99999);
        due("99999 at most", x.common(rule, 5, 1, 0), 1);
        due("rule", x.common(1, 5, 1, 0), -1);
        due("rule -1", x.common(-1, 5, 1, 0), -1);
        due("coins -1", x.common(rule, -1, 1, 0), -1);
        due("coins 100000", x.common(rule, 100000, 1, 0), -1);
        due("n -1", x.common(rule, 5, -1, 0), -1);
        due("n 21", x.common(rule, 5, 21, 0), -1);
        due("what 2", x.common(rule, 5, 1, 2), -1);
        due("what -1", x.common(rule, 5, 1, -1), -1);
        fullStore();
    }

    /** What is more than 99999 is lost: it is not there for what spoils. */
    private static void fullStore() {
        DarkStreet y = new DarkStreet();
        y.house(0, 0, 0);
        y.store(0, 1, 99998);
        y.need(0, 1, 2, 1, 0, 95, false);
        y.item(0, 1, 99999, 1);
        y.item(0, 1, 99999, 1);
        int spoils = Checks.rule(y, "spoil 99998");
        due("item of price 0", y.item(0, 0, 1, 0), 3);
        due("one left of a full store", y.common(spoils, 9, 1, 1), 1);
        due("and the first will do", y.common(spoils, 9, 1, 0), 1);
    }

    private static void shoulds() {
        DarkStreet x = new DarkStreet();
        x.house(0, 0, 0);
        x.house(1, 0, 0);
        x.tie(1, 0, 1);
        x.store(1, 4, 10);
        x.need(0, 4, 2, 1, 0, 95, false);
        x.need(1, 4, 1, 3, 0, 95, false);
        // By what is said the second house keeps for itself what it will need.
        int rule = Checks.rule(x, "give store-until");
        due("no ends", x.should(rule, 0), -2);
        due("no ends, sum", x.should(rule, 1), -2);
        due("ends quarter -1", x.ends(-1, 1), -1);
        due("ends quarter 100000", x.ends(100000, 1), -1);
        due("ends weight 0", x.ends(1, 0), -1);
        due("ends weight 1000", x.ends(1, 1000), -1);
        due("end 1", x.ends(12, 4), 1);
        due("end 2", x.ends(4, 1), 2);
        due("end 3", x.ends(99999, 999), 3);
        long[] sums = new long[2];
        int[] said = {12, 4};
        for (int i = 0; i < 2; i++) {
            int was = x.say(said[i]);
            sums[i] = 4 * x.total(rule, 12, 0) + x.total(rule, 4, 0);
            x.say(was);
        }
        // Saying 99999 nobody gives anything for as long as one looks.
        long never = 4 * x.total(Checks.rule(x, "give 0"), 12, 0) + x.total(1, 4, 0);
        long least = Math.min(never, Math.min(sums[0], sums[1]));
        due("the least sum", x.should(rule, 1), least);
        due("its quarter", x.should(rule, 0), least == sums[1] ? 4 : least == sums[0] ? 12 : 99999);
        due("all differ", sums[0] != sums[1] && sums[1] != never ? 1 : 0, 1);
        due("nothing is said", x.count(8), 999);
        due("end 4", x.ends(60, 1), 4);
        due("end 5", x.ends(61, 1), 5);
        due("end 6", x.ends(0, 1), 6);
        due("end 7", x.ends(0, 1), -1);
        due("rule", x.should(2, 0), -1);
        due("rule -1", x.should(-1, 0), -1);
        due("what 2", x.should(rule, 2), -1);
        due("what -1", x.should(rule, -1), -1);
        nearAndPassed();
    }

    private static void nearAndPassed() {
        DarkStreet x = new DarkStreet();
        x.house(0, 0, 0);
        x.need(0, 4, 1, 1, 0, 95, false);
        Checks.rule(x, "hold 0");
        x.ends(63, 10);
        due("61 ahead is too far", x.should(0, 1), 0);
        x.run(0, 2);
        due("61 still", x.should(0, 1), 0);
        x.run(0, 1);
        due("60 ahead", x.should(0, 1), 600);
        x.ends(3, 7);
        x.ends(2, 7);
        due("passed ones are 0", x.should(0, 1), 600);
        due("of several the earliest", x.should(0, 0), 2);
        x.ends(4, 7);
        due("one quarter", x.should(0, 1), 607);
        x.ends(4, 7);
        due("two of one quarter", x.should(0, 1), 614);
        for (int i = 0; i < 166; i++) {
            x.run(0, 60);
        }
        x.ends(10000, 3);
        due("beyond 9999", x.should(0, 1), 3L * (10000 - x.count(0)));
    }
}
