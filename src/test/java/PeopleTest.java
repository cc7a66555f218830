/** Who owes, is loud and hears: promises 37 to 42. */
public final class PeopleTest {
    private static final Checks CHECKS = new Checks("people");

    public static void main(String[] args) {
        owes();
        noise();
        hears();
        CHECKS.close();
    }

    private static void due(String call, long got, long want) {
        CHECKS.due(call, got, want);
    }

    private static void owes() {
        DarkStreet x = new DarkStreet();
        due("no houses", x.debtor(), -2);
        for (int h = 0; h < 4; h++) {
            x.house(h, 0, 0);
        }
        due("nobody owes", x.debtor(), 0);
        x.tie(0, 2, 1);
        x.tie(2, 0, 1);
        x.tie(3, 2, 1);
        x.cable(0, 2, 9);
        x.store(0, 4, 10);
        x.store(0, 0, 5);
        x.store(2, 5, 4);
        x.store(3, 3, 6);
        x.need(2, 4, 10, 1, 0, 0, false);
        x.need(2, 0, 5, 1, 0, 0, false);
        x.need(0, 5, 4, 1, 0, 0, false);
        x.need(2, 3, 6, 1, 1, 1, false);
        x.run(Checks.rule(x, "give 99"), 2);
        due("owes", x.owes(2, 0), 11);
        due("the other way", x.owes(0, 2), -11);
        due("owes 3", x.owes(2, 3), 6);
        due("nothing", x.owes(1, 2), 0);
        due("debtor", x.debtor(), 2);
        due("owes itself", x.owes(2, 2), -1000000000000L);
        due("owes house 4", x.owes(2, 4), -1000000000000L);
        due("owes house -1", x.owes(-1, 2), -1000000000000L);
        DarkStreet y = new DarkStreet();
        y.house(0, 0, 0);
        y.house(0, 0, 0);
        y.house(0, 0, 0);
        y.tie(0, 2, 1);
        y.tie(0, 1, 1);
        y.store(0, 1, 9);
        y.need(2, 1, 4, 1, 0, 95, false);
        y.need(1, 1, 4, 1, 0, 95, false);
        y.run(Checks.rule(y, "give 99"), 1);
        due("of several the least", y.debtor(), 1);
        DarkStreet z = new DarkStreet();
        for (int h = 0; h < 4; h++) {
            z.house(h, 0, 0);
            z.store(h, 4, 100);
        }
        // 3 gets 5 and gives 1, 2 gets 6 and gives 2, 1 gets 3 and gives 6, 0 gives 5.
        int[][] gifts = {{0, 3, 5}, {1, 2, 6}, {2, 1, 2}, {3, 1, 1}};
        for (int[] gift : gifts) {
            z.store(gift[1], 4, 0);
            z.tie(gift[0], gift[1], 1);
            z.need(gift[1], 4, gift[2], 1, z.count(0), z.count(0), false);
            z.run(z.count(5) == 0 ? Checks.rule(z, "give 99") : 0, 1);
            z.tie(gift[0], gift[1], 0);
            z.store(gift[1], 4, 100);
        }
        due("3 got 4 more, 2 as many", z.debtor(), 2);
        z.tie(0, 3, 1);
        z.store(3, 4, 0);
        z.need(3, 4, 1, 1, z.count(0), z.count(0), false);
        z.run(0, 1);
        due("now 5", z.debtor(), 3);
    }

    private static void noise() {
        DarkStreet x = new DarkStreet();
        due("no makers", x.loud(), -2);
        x.house(0, 0, 0);
        x.house(10, 20, 0);
        x.house(99, 99, 0);
        x.house(11, 20, 0);
        x.maker(0, 0, 1, 1, 1, 50);
        x.maker(1, 0, 1, 1, 1, 45);
        x.maker(2, 0, 1, 1, 1, 99);
        x.maker(3, 0, 1, 1, 1, 45);
        due("all are off", x.noise(0), 0);
        x.on(0, true);
        x.on(1, true);
        due("both", x.noise(0), 50 + 15);
        due("at 1", x.noise(1), 20 + 45);
        due("none below 0", x.noise(2), 0);
        x.on(0, false);
        due("one", x.noise(0), 15);
        due("house 4", x.noise(4), -1);
        due("house -1", x.noise(-1), -1);
        // 50 + 20 + 19, 15 + 45 + 44, 99, 14 + 44 + 45
        due("loud", x.loud(), 1);
        x.maker(1, 0, 1, 1, 1, 45);
        due("of several the least", x.loud(), 1);
        x.maker(1, 0, 1, 1, 1, 46);
        due("louder, though off", x.loud(), 5);
        DarkStreet y = new DarkStreet();
        y.house(0, 0, 0);
        y.maker(0, 0, 1, 1, 1, 0);
        due("a still one", y.loud(), 0);
    }

    private static void hears() {
        DarkStreet x = new DarkStreet();
        due("no parts", x.parts(0), 0);
        due("no bridge", x.parts(1), -2);
        due("parts(2) of a new one", x.parts(2), -1);
        x.house(0, 0, 0);
        due("one part", x.parts(0), 1);
        due("one bridge", x.parts(1), 0);
        for (int h = 1; h < 7; h++) {
            x.house(0, 0, 0);
        }
        // 0 - 1 - 2 - 3 and 4 - 5, each tie one way alone, 6 by itself
        x.tie(1, 0, 1);
        x.tie(1, 2, 9);
        x.tie(3, 2, 1);
        x.tie(4, 5, 2);
        int[] steps = {3, 2, 2, 3, 1, 1, 0};
        int[] many = {3, 3, 3, 3, 1, 1, 0};
        for (int h = 0; h < 7; h++) {
            due("steps of " + h, x.knows(h, 0), steps[h]);
            due("how many of " + h, x.knows(h, 1), many[h]);
        }
        due("parts", x.parts(0), 3);
        due("bridge", x.parts(1), 1);
        x.tie(0, 3, 1);
        due("a ring", x.knows(0, 0), 2);
        due("parts stay", x.parts(0), 3);
        due("no house parts more: of several the least", x.parts(1), 0);
        x.tie(4, 5, 0);
        due("untied", x.parts(0), 4);
        due("house 7", x.knows(7, 0), -1);
        due("house -1", x.knows(-1, 0), -1);
        due("what 2", x.knows(0, 2), -1);
        due("what -1", x.knows(0, -1), -1);
        due("parts(-1)", x.parts(-1), -1);
        x.tie(6, 4, 1);
        x.tie(6, 5, 1);
        x.tie(6, 0, 1);
        due("the one in the middle", x.parts(1), 6);
    }
}
