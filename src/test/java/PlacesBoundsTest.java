/**
 * The sentences of the document that name a boundary of lines, doors, turns and ties: promises 32, 34
 * and 36 to 42.
 */
public final class PlacesBoundsTest {
    private static final Checks CHECKS = new Checks("bounds of places");
    private static final long NO_DIFFERENCE = -1000000000000L;

    public static void main(String[] args) {
        reachOfNoneOrOne();
        reachByWayOfOthers();
        reachByWayOfEach();
        reachOfAll();
        setsOfHousesThereAre();
        sixDoorsAtMost();
        noDoors();
        fromIsNoneOfThese();
        theLesserDoorFirst();
        dearestDoors();
        turnsOf1To7();
        leftIs0AtLeast();
        leftBecomesLasts();
        theLesserTurnerFirst();
        noTurners();
        fiveTurners();
        owesBelow0();
        debtorOfSeveral();
        noiseAtLeast0();
        loudOfSeveral();
        knowsStepByStep();
        knowsOfNone();
        partsAndBridge();
        CHECKS.close();
    }

    private static Talk talk(String about) {
        return new Talk(CHECKS, about);
    }

    private static Talk houses(String about, int[]... at) {
        Talk talk = talk(about);
        for (int h = 0; h < at.length; h++) {
            talk.due(h, "house", at[h][0], at[h][1], 0);
        }
        return talk;
    }

    /** Houses along a line, so far from one another. */
    private static Talk line(String about, int n, int far) {
        int[][] at = new int[n][2];
        for (int h = 0; h < n; h++) {
            at[h][0] = far * h;
        }
        return houses(about, at);
    }

    private static void reachOfNoneOrOne() {
        Talk talk = line("REACH (0 for none or one)", 12, 9);
        talk.due(0, "reach", 0);
        for (int h = 0; h < 12; h++) {
            talk.due(0, "reach", 1 << h);
        }
        talk.due(9, "reach", 3);
        talk.due(99, "reach", 1 | 1 << 11);
        talk.due(99, "reach", 4095);
        Talk one = houses("two at one place", new int[] {7, 7}, new int[] {7, 7});
        one.due(0, "reach", 3);
        Talk far = houses("x, y (0 to 99)", new int[] {0, 0}, new int[] {99, 99}, new int[] {0, 99}, new int[] {99, 0});
        far.due(198, "reach", 3);
        far.due(198, "reach", 12);
        far.due(198, "reach", 7);
        far.due(297, "reach", 15);
    }

    private static void reachByWayOfOthers() {
        Talk talk = houses("by way of others, too", new int[] {10, 0}, new int[] {0, 10}, new int[] {20, 10},
                new int[] {10, 20});
        talk.due(40, "reach", 7);
        talk.due(60, "reach", 15);
        talk.due(4, "house", 11, 10, 0);
        talk.due(31, "reach", 7);
        talk.due(42, "reach", 15);
        talk.due(42, "reach", 31);
        talk.due(5, "house", 10, 10, 0);
        talk.due(30, "reach", 7);
        talk.due(40, "reach", 15);
        talk.due(20, "reach", 3);
        Talk two = houses("by way of two others", new int[] {0, 0}, new int[] {0, 20}, new int[] {50, 0},
                new int[] {50, 20}, new int[] {10, 10}, new int[] {40, 10});
        // Without: 20 + 20 + 50; by both: 4 * 20 + 30; the shortest is without.
        two.due(90, "reach", 15);
        two.due(6, "house", 0, 10, 0);
        two.due(7, "house", 50, 10, 0);
        two.due(90, "reach", 15);
        two.due(8, "house", 25, 10, 0);
        two.due(90, "reach", 15);
        two.due(50, "reach", 5);
        two.due(60, "reach", 2 | 1 << 7);
    }

    /** Whichever number the house has that helps. */
    private static void reachByWayOfEach() {
        int[][] ends = {{10, 0}, {0, 10}, {20, 10}, {10, 20}};
        for (int helper = 0; helper <= 4; helper++) {
            Talk talk = talk("by way of HOUSE " + helper);
            int next = 0;
            for (int h = 0; h <= 4; h++) {
                if (h == helper) {
                    talk.due(h, "house", 10, 10, 0);
                } else {
                    talk.due(h, "house", ends[next][0], ends[next][1], 0);
                    next++;
                }
            }
            talk.due(40, "reach", 31 - (1 << helper));
            talk.due(40, "reach", 31);
            int first = helper == 0 ? 2 : 1;
            talk.due(30, "reach", 31 - (1 << helper) - first);
        }
    }

    private static void reachOfAll() {
        Talk talk = talk("REACH in a full street");
        for (int h = 0; h < 12; h++) {
            talk.due(h, "house", 20 * (h % 4), 30 * (h / 4), 0);
        }
        talk.due(3 * 60 + 2 * 30, "reach", 4095);
        talk.due(60 + 60, "reach", 1 | 1 << 11);
        talk.due(120, "reach", 1 | 1 << 3 | 1 << 11);
        talk.due(180, "reach", 1 | 1 << 3 | 1 << 8 | 1 << 11);
    }

    private static void setsOfHousesThereAre() {
        Talk talk = line("NONE without these", 3, 1);
        talk.refused(-1, "reach", new int[] {8}, new int[] {9}, new int[] {-1}, new int[] {4096}, new int[] {1 << 31},
                new int[] {1 << 30}, new int[] {15}, new int[] {7 - 16});
        talk.due(2, "reach", 7);
        talk.refused(-1, "doors", new int[] {0, 8, -1}, new int[] {0, 10, -1}, new int[] {0, -1, -1},
                new int[] {0, -2, -1}, new int[] {0, 1 << 31, -1}, new int[] {3, 1, -1}, new int[] {-1, 1, -1});
        talk.due(0, "doors", 0, 6, -1);
        Talk full = line("twelve", 12, 1);
        full.due(11, "reach", 4095);
        full.due(-1, "reach", 4096);
        full.due(-1, "reach", 8191);
    }

    private static void sixDoorsAtMost() {
        Talk talk = line("a set of others (6 at most)", 12, 9);
        for (int h = 0; h < 12; h++) {
            talk.ask("odds", h, 1);
        }
        talk.due(9 * (1 + 2 + 3 + 4 + 5), "doors", 0, 62, -1);
        talk.due(9 * (1 + 2 + 3 + 4 + 5 + 6), "doors", 0, 126, -1);
        for (int k = 0; k < 6; k++) {
            talk.due(k + 1, "doors", 0, 126, k);
        }
        talk.refused(-1, "doors", new int[] {0, 126, 6}, new int[] {0, 126, -2}, new int[] {0, 254, -1},
                new int[] {0, 254, 0}, new int[] {0, 4094, -1});
        // The greatest six: from 5 one goes down before one goes up.
        talk.due(9 * (1 + 2 + 3 + 4 + 5 + 6), "doors", 5, 4032, -1);
        for (int k = 0; k < 6; k++) {
            talk.due(6 + k, "doors", 5, 4032, k);
            talk.due(10 - k, "doors", 11, 2016, k);
        }
        talk.due(-1, "doors", 11, 2016 | 1, -1);
    }

    private static void noDoors() {
        Talk talk = line("DOORS through none", 2, 9);
        talk.due(0, "doors", 1, 0, -1);
        talk.refused(-1, "doors", new int[] {1, 0, 0}, new int[] {1, 0, 1}, new int[] {1, 0, -2}, new int[] {2, 0, -1});
        talk.ask("odds", 0, 1000);
        talk.due(9000, "doors", 1, 1, -1);
        talk.due(0, "doors", 1, 1, 0);
        talk.due(-1, "doors", 1, 1, 1);
    }

    private static void fromIsNoneOfThese() {
        Talk talk = line("(it is none of these)", 3, 1);
        for (int h = 0; h < 3; h++) {
            for (int set = 0; set < 8; set++) {
                talk.due((set >> h & 1) == 1 ? -1 : 0, "doors", h, set, -1);
            }
        }
    }

    private static void theLesserDoorFirst() {
        Talk talk = line("of several orders the one with the lesser HOUSE first where they part", 7, 0);
        for (int h = 0; h < 7; h++) {
            talk.ask("odds", h, 1000);
        }
        talk.due(0, "doors", 3, 119, -1);
        int[] order = {0, 1, 2, 4, 5, 6};
        for (int k = 0; k < 6; k++) {
            talk.due(order[k], "doors", 3, 119, k);
        }
        // 1 and 2 are as far off, on both sides; 3 lies behind 2.
        Talk part = houses("where they part", new int[] {50, 0}, new int[] {40, 0}, new int[] {60, 0}, new int[] {60, 5});
        part.ask("odds", 1, 10);
        part.ask("odds", 2, 10);
        part.due(10 * 10 + 30 * 10, "doors", 0, 6, -1);
        part.due(1, "doors", 0, 6, 0);
        part.ask("odds", 2, 11);
        part.due(2, "doors", 0, 6, 0);
        part.due(1, "doors", 0, 6, 1);
        part.ask("odds", 2, 10);
        part.due(1, "doors", 0, 14, 0);
        part.due(2, "doors", 0, 14, 1);
        part.due(3, "doors", 0, 14, 2);
        part.ask("odds", 1, 0);
        part.ask("odds", 2, 0);
        part.ask("odds", 3, 1);
        part.due(15, "doors", 0, 14, -1);
        part.due(2, "doors", 0, 14, 0);
        part.due(3, "doors", 0, 14, 1);
        part.due(1, "doors", 0, 14, 2);
    }

    private static void dearestDoors() {
        Talk talk = houses("ODDS (0 to 1000), the longest ways", new int[] {0, 0}, new int[] {99, 99}, new int[] {99, 99},
                new int[] {99, 99}, new int[] {99, 99}, new int[] {99, 99}, new int[] {99, 99});
        for (int h = 1; h < 7; h++) {
            talk.due(0, "doors", 0, 126, -1);
            talk.ask("odds", h, 0);
        }
        for (int h = 1; h < 7; h++) {
            talk.ask("odds", h, 1000);
            talk.due(198000 * h, "doors", 0, 126, -1);
        }
        talk.due(0, "odds", 0, 1000);
        talk.due(0, "doors", 1, 124, -1);
        talk.due(198000, "doors", 1, 125, -1);
        talk.due(0, "doors", 1, 125, 5);
    }

    private static void turnsOf1To7() {
        Talk talk = talk("In each of n turns (1 to 7)");
        talk.ask("turner", 0, 1, 1, 3);
        talk.ask("turner", 1, 1, 1, 5);
        for (int n = 1; n <= 7; n++) {
            talk.due(3 * n, "rows", n, -1);
            for (int k = 0; k < n; k++) {
                talk.due(1, "rows", n, k);
            }
            talk.due(-1, "rows", n, n);
            talk.due(-1, "rows", n, -2);
        }
        talk.refused(-1, "rows", new int[] {0, -1}, new int[] {8, -1}, new int[] {-1, -1}, new int[] {8, 0},
                new int[] {7, 7}, new int[] {1, 1}, new int[] {1, -2});
    }

    private static void leftIs0AtLeast() {
        Talk talk = talk("left is one less (0 at least)");
        talk.ask("turner", 0, 1, 0, 10);
        talk.ask("turner", 3, 20, 0, 4);
        // 0 hurts 10 in each turn that it has not; 3, once served, never again in seven turns.
        talk.due(4, "rows", 1, -1);
        talk.due(8, "rows", 2, -1);
        talk.due(10, "rows", 3, -1);
        talk.due(3, "rows", 3, 0);
        talk.due(0, "rows", 3, 1);
        talk.due(10, "rows", 7, -1);
        Talk left = talk("each other one whose left is 0 then has its harm");
        left.ask("turner", 2, 20, 20, 0);
        // 2 has its turns for nothing; 4 has one only where the next would be too late.
        int[] latest = {0, 0, 1, 2, 3};
        for (int lefts = 0; lefts <= 4; lefts++) {
            left.ask("turner", 4, 20, lefts, 7);
            for (int n = 1; n <= 4; n++) {
                left.due(0, "rows", n, -1);
                for (int k = 0; k < n; k++) {
                    left.due(k == latest[lefts] ? 4 : 2, "rows", n, k);
                }
            }
        }
    }

    private static void leftBecomesLasts() {
        Talk talk = talk("its left becomes lasts");
        talk.ask("turner", 0, 2, 20, 0);
        talk.ask("turner", 1, 2, 1, 1);
        // 1 has to have each second turn, the first one too.
        talk.due(0, "rows", 7, -1);
        int[] row = {1, 0, 1, 0, 1, 0, 1};
        for (int k = 0; k < 7; k++) {
            talk.due(row[k], "rows", 7, k);
        }
        talk.ask("turner", 1, 1, 1, 1);
        for (int k = 0; k < 7; k++) {
            talk.due(1, "rows", 7, k);
        }
        talk.ask("turner", 0, 1, 20, 1);
        talk.due(0, "rows", 7, -1);
        talk.ask("turner", 0, 1, 7, 1);
        talk.due(1, "rows", 7, -1);
        talk.ask("turner", 0, 1, 8, 1);
        talk.due(0, "rows", 7, -1);
    }

    private static void theLesserTurnerFirst() {
        Talk talk = talk("of several the one with the lesser TURNER first where they part");
        talk.ask("turner", 4, 1, 20, 9);
        talk.ask("turner", 2, 1, 20, 9);
        for (int k = 0; k < 7; k++) {
            talk.due(2, "rows", 7, k);
        }
        talk.ask("turner", 2, 2, 2, 9);
        talk.ask("turner", 4, 2, 2, 9);
        talk.due(0, "rows", 7, -1);
        int[] row = {2, 4, 2, 4, 2, 4, 2};
        for (int k = 0; k < 7; k++) {
            talk.due(row[k], "rows", 7, k);
        }
        talk.ask("turner", 4, 3, 2, 9);
        // Behind its turn 4 can wait for three: the lesser has as many turns as it may, as early as it may.
        int[] other = {2, 4, 2, 2, 4, 2, 2};
        for (int k = 0; k < 7; k++) {
            talk.due(other[k], "rows", 7, k);
        }
    }

    private static void noTurners() {
        Talk talk = talk("-2: there are no TURNERS");
        for (int n = 1; n <= 7; n++) {
            talk.due(-2, "rows", n, -1);
            talk.due(-2, "rows", n, n - 1);
        }
        talk.refused(0, "turner", new int[] {5, 1, 1, 1}, new int[] {0, 0, 1, 1});
        talk.due(-2, "rows", 1, -1);
        for (int t = 0; t < 5; t++) {
            Talk one = talk("one TURNER alone, of whatever number");
            one.due(1, "turner", t, 1, 0, 999);
            one.due(0, "rows", 7, -1);
            for (int k = 0; k < 7; k++) {
                one.due(t, "rows", 7, k);
            }
        }
    }

    private static void fiveTurners() {
        Talk talk = talk("five TURNERS, all in need");
        for (int t = 0; t < 5; t++) {
            talk.ask("turner", t, 1, 0, 999);
        }
        talk.due(7 * 4 * 999, "rows", 7, -1);
        talk.due(0, "rows", 7, 6);
        for (int t = 0; t < 5; t++) {
            talk.ask("turner", t, 5, t + 1, 999);
        }
        talk.due(0, "rows", 7, -1);
        int[] row = {0, 1, 2, 3, 4, 0, 1};
        for (int k = 0; k < 7; k++) {
            talk.due(row[k], "rows", 7, k);
        }
    }

    private static void owesBelow0() {
        Talk talk = line("OWES: what the other gave less what the one gave", 3, 1);
        talk.rule("give 9");
        talk.ask("tie", 0, 1, 1);
        talk.ask("store", 0, 4, 99);
        talk.ask("need", 1, 4, 9, 1, 0, 1, 0);
        talk.due(0, "owes", 0, 1);
        talk.ask("run", 0, 2);
        talk.due(18, "gave", 0, 1);
        talk.due(-18, "owes", 0, 1);
        talk.due(18, "owes", 1, 0);
        talk.due(0, "owes", 2, 0);
        talk.refused(NO_DIFFERENCE, "owes", new int[] {1, 1}, new int[] {0, 3}, new int[] {3, 0}, new int[] {-1, 0},
                new int[] {0, -1});
        talk.refused(-1, "gave", new int[] {1, 1}, new int[] {0, 3}, new int[] {3, 0}, new int[] {-1, 0});
    }

    private static void debtorOfSeveral() {
        Talk talk = line("DEBTOR: of several the least; -2: there are no HOUSES", 0, 1);
        talk.due(-2, "debtor");
        talk.ask("house", 0, 0, 0);
        talk.due(0, "debtor");
        for (int h = 1; h < 4; h++) {
            talk.ask("house", h, 0, 0);
        }
        talk.due(0, "debtor");
        talk.rule("give 99");
        // Once 0 has given, the others stand better than it: of those with nothing 2 and 3.
        talk.ask("tie", 0, 1, 1);
        talk.ask("tie", 1, 0, 1);
        talk.ask("store", 0, 4, 9);
        talk.ask("need", 1, 4, 5, 1, 0, 0, 0);
        talk.ask("need", 0, 5, 5, 1, 1, 1, 0);
        talk.ask("need", 0, 5, 1, 1, 2, 2, 0);
        talk.ask("store", 1, 5, 6);
        talk.due(0, "run", 0, 1);
        talk.due(1, "debtor");
        talk.due(0, "run", 0, 1);
        talk.due(0, "owes", 1, 0);
        talk.due(0, "debtor");
        talk.due(0, "run", 0, 1);
        talk.due(0, "debtor");
        talk.due(1, "owes", 0, 1);
    }

    private static void noiseAtLeast0() {
        Talk talk = line("NOISE: noise less FAR (0 at least)", 5, 10);
        talk.ask("maker", 0, 0, 0, 1, 1, 20);
        talk.ask("maker", 1, 0, 0, 1, 1, 99);
        talk.ask("maker", 2, 0, 0, 1, 1, 0);
        for (int h = 0; h < 5; h++) {
            talk.due(0, "noise", h);
        }
        talk.due(1, "on", 0, 1);
        int[] noise = {20, 10, 0, 0, 0};
        for (int h = 0; h < 5; h++) {
            talk.due(noise[h], "noise", h);
        }
        talk.due(1, "on", 2, 1);
        talk.due(1, "on", 1, 1);
        int[] together = {20 + 89, 10 + 99, 89, 79, 69};
        for (int h = 0; h < 5; h++) {
            talk.due(together[h], "noise", h);
        }
        talk.refused(-1, "noise", new int[] {5}, new int[] {-1}, new int[] {12});
        Talk edge = houses("FAR as much as noise, one less, one more", new int[] {0, 0}, new int[] {9, 10},
                new int[] {9, 9}, new int[] {10, 10});
        edge.ask("maker", 0, 0, 0, 1, 1, 19);
        edge.ask("on", 0, 1);
        edge.due(0, "noise", 1);
        edge.due(1, "noise", 2);
        edge.due(0, "noise", 3);
        Talk full = line("twelve at one place", 1, 1);
        for (int m = 0; m < 12; m++) {
            full.ask("maker", 0, 0, 0, 1, 1, 99);
            full.ask("on", m, 1);
        }
        full.due(12 * 99, "noise", 0);
        full.due(0, "loud");
    }

    private static void loudOfSeveral() {
        Talk talk = line("LOUD: by which alone, ON or not; of several the least; -2: there are no MAKERS", 3, 10);
        talk.due(-2, "loud");
        talk.ask("maker", 0, 0, 0, 1, 1, 0);
        talk.due(0, "loud");
        talk.ask("maker", 2, 0, 0, 1, 1, 0);
        talk.due(0, "loud");
        talk.ask("maker", 2, 0, 0, 1, 1, 5);
        talk.due(2, "loud");
        talk.ask("maker", 0, 0, 0, 1, 1, 5);
        talk.ask("on", 3, 1);
        talk.due(2, "loud");
        talk.ask("maker", 0, 0, 0, 1, 1, 6);
        talk.due(4, "loud");
        talk.ask("maker", 1, 0, 0, 1, 1, 6);
        talk.due(4, "loud");
        // In the middle one is heard on both sides: 12 + 2 + 2 against 12 + 2, and 13 + 3.
        talk.ask("maker", 0, 0, 0, 1, 1, 13);
        talk.due(6, "loud");
        talk.ask("maker", 1, 0, 0, 1, 1, 12);
        talk.due(6, "loud");
        talk.ask("maker", 1, 0, 0, 1, 1, 13);
        talk.due(8, "loud");
    }

    private static void knowsStepByStep() {
        Talk talk = line("step by step: how many steps to the farthest that hears, how many hear", 12, 1);
        for (int h = 1; h < 12; h++) {
            // Now of the one who hears to the one who says, now the other way round.
            talk.due(0, "tie", h - h % 2, h - 1 + h % 2, h % 9 + 1);
        }
        for (int h = 0; h < 12; h++) {
            talk.due(Math.max(h, 11 - h), "knows", h, 0);
            talk.due(11, "knows", h, 1);
        }
        talk.due(1, "parts", 0);
        talk.due(1, "parts", 1);
        // A ring of twelve.
        talk.ask("tie", 11, 0, 1);
        for (int h = 0; h < 12; h++) {
            talk.due(6, "knows", h, 0);
        }
        talk.due(0, "parts", 1);
        for (int h = 2; h < 12; h++) {
            talk.ask("tie", 0, h, 1);
        }
        talk.due(1, "knows", 0, 0);
        talk.due(2, "knows", 5, 0);
        talk.due(11, "knows", 5, 1);
        talk.refused(-1, "knows", new int[] {12, 0}, new int[] {-1, 1}, new int[] {0, 2}, new int[] {0, -1});
    }

    private static void knowsOfNone() {
        Talk talk = line("TIES (above 0)", 2, 1);
        talk.due(0, "knows", 0, 0);
        talk.due(0, "knows", 0, 1);
        talk.ask("tie", 0, 1, 1);
        talk.due(1, "knows", 0, 0);
        talk.due(1, "knows", 1, 1);
        talk.ask("tie", 1, 0, 9);
        talk.ask("tie", 0, 1, 0);
        talk.due(1, "knows", 0, 0);
        talk.due(1, "knows", 1, 1);
        talk.ask("tie", 1, 0, 0);
        talk.due(0, "knows", 0, 0);
        talk.due(0, "knows", 1, 1);
        // What was asked of many before is not left over.
        Talk after = line("after a long one", 3, 1);
        after.ask("tie", 0, 1, 1);
        after.ask("tie", 1, 2, 1);
        after.due(2, "knows", 0, 0);
        after.ask("tie", 0, 1, 0);
        after.ask("tie", 1, 2, 0);
        after.due(0, "knows", 0, 0);
        after.due(0, "knows", 2, 0);
        after.due(0, "knows", 2, 1);
    }

    private static void partsAndBridge() {
        Talk talk = talk("PARTS; BRIDGE (-2: there are no HOUSES)");
        talk.due(0, "parts", 0);
        talk.due(-2, "parts", 1);
        for (int h = 0; h < 12; h++) {
            talk.ask("house", h, 0, 0);
            talk.due(h + 1, "parts", 0);
            talk.due(0, "parts", 1);
        }
        talk.refused(-1, "parts", new int[] {2}, new int[] {-1});
        // A pair: each of them leaves the other, any other one the pair and nine.
        talk.ask("tie", 3, 8, 1);
        talk.due(11, "parts", 0);
        talk.due(3, "parts", 1);
        talk.ask("tie", 8, 5, 1);
        talk.due(10, "parts", 0);
        talk.due(8, "parts", 1);
        talk.ask("tie", 1, 4, 1);
        talk.ask("tie", 4, 7, 1);
        talk.due(8, "parts", 0);
        talk.due(4, "parts", 1);
        talk.ask("tie", 8, 11, 1);
        talk.due(7, "parts", 0);
        talk.due(8, "parts", 1);
    }
}
