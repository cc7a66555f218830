/** Lines, doors and turns: promises 32 to 36. */
public final class PlacesTest {
    private static final Checks CHECKS = new Checks("places");

    public static void main(String[] args) {
        reach();
        doors();
        turners();
        CHECKS.close();
    }

    private static void due(String call, long got, long want) {
        CHECKS.due(call, got, want);
    }

    private static void reach() {
        DarkStreet x = new DarkStreet();
        due("none of a new one", x.reach(0), 0);
        due("a house that is not there", x.reach(1), -1);
        x.house(0, 0, 0);
        x.house(4, 0, 0);
        x.house(0, 4, 0);
        x.house(4, 4, 0);
        x.house(2, 2, 0);
        x.house(90, 90, 0);
        due("none", x.reach(0), 0);
        due("one", x.reach(32), 0);
        due("two", x.reach(3), 4);
        due("three by way of a corner or without", x.reach(7), 8);
        due("four", x.reach(15), 12);
        due("all near", x.reach(31), 16);
        due("far", x.reach(33), 180);
        due("set 64", x.reach(64), -1);
        due("set -1", x.reach(-1), -1);
        DarkStreet y = new DarkStreet();
        y.house(10, 0, 0);
        y.house(0, 10, 0);
        y.house(20, 10, 0);
        y.house(10, 20, 0);
        due("four ends of a cross without its middle", y.reach(15), 60);
        y.house(10, 10, 0);
        due("by way of the middle", y.reach(15), 40);
        due("by way of the middle, three", y.reach(7), 30);
        due("and the middle told", y.reach(31), 40);
        y.house(10, 10, 0);
        due("two at one place", y.reach(48), 0);
        for (int i = 0; i < 6; i++) {
            y.house(99, 9 * i, 0);
        }
        due("twelve", y.reach(4095), 40 + 79 + 1 + 45 + y.count(0));
        due("set 4096", y.reach(4096), -1);
    }

    private static void doors() {
        DarkStreet x = new DarkStreet();
        for (int i = 0; i < 8; i++) {
            x.house(10 * i, 0, 0);
        }
        due("odds", x.odds(3, 1000), 0);
        due("odds were", x.odds(3, 1), 1000);
        due("odds 1001", x.odds(3, 1001), -1);
        due("odds -1", x.odds(3, -1), -1);
        due("odds house 8", x.odds(8, 1), -1);
        due("odds house -1", x.odds(-1, 1), -1);
        due("odds stay", x.odds(3, 0), 1);
        due("odds 0", x.odds(3, 1), 0);
        due("no odds", x.doors(0, 0b11110110, -1), 0);
        due("seven are too many", x.doors(0, 0b11111110, 0), -1);
        due("six", x.doors(0, 0b01111110, -1), 30);
        due("the lesser first", x.doors(0, 0b01111110, 0), 1);
        x.odds(1, 10);
        x.odds(5, 9);
        x.odds(7, 100);
        due("sum", x.doors(4, 0b10101010, -1), 10 * 9 + 30 * 100 + 70 * 1 + 90 * 10);
        int[] order = {5, 7, 3, 1};
        for (int k = 0; k < 4; k++) {
            due("door " + k, x.doors(4, 0b10101010, k), order[k]);
        }
        x.odds(0, 1000);
        due("house 0 in the set", x.doors(4, 0b10101011, 2), 0);
        due("from its end", x.doors(0, 0b11111100, -1), 20 * 0 + 30 * 1 + 50 * 9 + 70 * 100);
        x.odds(0, 0);
        due("k 4", x.doors(4, 0b10101010, 4), -1);
        due("k -2", x.doors(4, 0b10101010, -2), -1);
        due("none", x.doors(4, 0, -1), 0);
        due("the first of none", x.doors(4, 0, 0), -1);
        due("from in the set", x.doors(4, 0b00010000, -1), -1);
        due("from 8", x.doors(8, 1, -1), -1);
        due("from -1", x.doors(-1, 1, -1), -1);
        due("set 256", x.doors(4, 256, -1), -1);
        due("set -1", x.doors(4, -1, -1), -1);
    }

    private static void turners() {
        DarkStreet x = new DarkStreet();
        due("no turners", x.rows(7, -1), -2);
        due("no turners, k", x.rows(7, 6), -2);
        due("not as told before all", x.rows(8, -1), -1);
        CHECKS.no("turner 5", x.turner(5, 1, 1, 1));
        CHECKS.no("turner -1", x.turner(-1, 1, 1, 1));
        CHECKS.no("lasts 0", x.turner(0, 0, 1, 1));
        CHECKS.no("lasts 21", x.turner(0, 21, 1, 1));
        CHECKS.no("left -1", x.turner(0, 1, -1, 1));
        CHECKS.no("left 21", x.turner(0, 1, 21, 1));
        CHECKS.no("harm -1", x.turner(0, 1, 1, -1));
        CHECKS.no("harm 1000", x.turner(0, 1, 1, 1000));
        due("still none", x.rows(1, -1), -2);
        DarkStreet y = new DarkStreet();
        CHECKS.yes("turner 0", y.turner(0, 1, 0, 0));
        due("turner 0 alone", y.rows(2, 1), 0);
        CHECKS.yes("turner 0 in its place", y.turner(0, 1, 0, 7));
        CHECKS.yes("turner 4", y.turner(4, 1, 20, 7));
        due("0 has all turns", y.rows(7, -1), 0);
        CHECKS.yes("turner 4 has none left", y.turner(4, 1, 0, 7));
        due("one of both lacks it", y.rows(7, -1), 49);
        CHECKS.yes("turner 3", x.turner(3, 20, 20, 999));
        due("it alone", x.rows(7, -1), 0);
        due("has all turns", x.rows(7, 6), 3);
        CHECKS.yes("turner 1", x.turner(1, 1, 0, 5));
        // 1 hurts in each turn that it has not; 3 in none of the first 19 turns.
        due("1 all the time", x.rows(7, -1), 0);
        for (int k = 0; k < 7; k++) {
            due("turn " + k, x.rows(7, k), 1);
        }
        CHECKS.yes("in its place", x.turner(3, 2, 1, 5));
        due("one of both in each turn", x.rows(3, -1), 10);
        due("the lesser first", x.rows(3, 0), 1);
        due("then the other", x.rows(3, 1), 3);
        due("and again", x.rows(3, 2), 1);
        CHECKS.yes("left 0 stays 0", x.turner(3, 2, 0, 7));
        due("a turn", x.rows(1, -1), 5);
        due("who", x.rows(1, 0), 3);
        due("k 1", x.rows(1, 1), -1);
        due("k -2", x.rows(1, -2), -1);
        due("n 0", x.rows(0, -1), -1);
        due("n -1", x.rows(-1, -1), -1);
        due("n 8", x.rows(8, -1), -1);
        for (int t = 0; t < 5; t++) {
            x.turner(t, 5, 1, 100 + t);
        }
        // Only one can be spared each turn: with 5 lasting all are still after five turns.
        due("five of them", x.rows(7, 0), 4);
    }
}
