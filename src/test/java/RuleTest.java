/** The language of the rules and their faults: promises 14 and 21. */
public final class RuleTest {
    private static final Checks CHECKS = new Checks("rules");

    public static void main(String[] args) {
        numbersOfRules();
        faultsOfPlace();
        faultsOfNumbers();
        faultsOfDepth();
        faultsOfCount();
        faultsOfClauses();
        sums();
        tests();
        wordsOfFirst();
        clauses();
        CHECKS.close();
    }

    private static void refused(String text, int place, int kind) {
        DarkStreet x = new DarkStreet();
        CHECKS.due("[" + text + "]", Checks.rule(x, text), Checks.fault(place, kind));
        CHECKS.due("no rule of [" + text + "]", x.count(5), 0);
        CHECKS.due("the tape is empty after [" + text + "]", x.count(10), 0);
    }

    private static void taken(String text) {
        CHECKS.due("[" + text + "]", Checks.rule(new DarkStreet(), text), 0);
    }

    /** What first of a need is in a street made for this. */
    private static void first(String text, long want) {
        DarkStreet x = new DarkStreet();
        x.house(1, 1, 1);
        x.house(5, 6, 7);
        x.store(1, 1, 61);
        x.store(1, 4, 23);
        x.store(0, 4, 999);
        x.tie(0, 1, 5);
        x.tie(1, 0, 6);
        x.need(0, 0, 1, 1, 0, 0, false);
        x.need(1, 4, 17, 13, 50, 51, true);
        x.say(200);
        int idle = Checks.rule(x, "hold 0");
        x.run(idle, 30);
        int rule = Checks.rule(x, text);
        CHECKS.due("ahead by [" + text + "]", x.ahead(rule, 1), want);
    }

    private static void numbersOfRules() {
        DarkStreet x = new DarkStreet();
        for (int i = 0; i < 8; i++) {
            CHECKS.due("a fault between", Checks.rule(x, "hold"), Checks.fault(4, 0));
            CHECKS.due("rule " + i, Checks.rule(x, "hold " + i), i);
        }
        Checks.feed(x, "hold");
        CHECKS.due("a ninth rule", x.rule(), -1);
        CHECKS.due("nothing happened to the tape", x.count(10), 4);
        CHECKS.due("eight", x.count(5), 8);
        x.house(0, 0, 0);
        x.need(0, 0, 1, 1, 0, 0, false);
        DarkStreet y = new DarkStreet();
        y.house(0, 0, 0);
        y.need(0, 0, 1, 1, 0, 0, false);
        CHECKS.due("nothing is left of one that could not be read", Checks.rule(y, "first 1;spoil"), Checks.fault(13, 0));
        CHECKS.due("a rule", Checks.rule(y, "first 2 if 2<1;hold 3;first 3"), 0);
        CHECKS.due("by the rule alone", y.ahead(0, 0), 3);
        CHECKS.due("ahead without a need", y.ahead(0, 1), 0);
        CHECKS.due("ahead without a need", y.ahead(0, 2), 0);
        CHECKS.due("60 values", Checks.rule(y, "first 1" + Checks.times("+1", 59)), 1);
        CHECKS.due("60 values again", Checks.rule(y, "first 1" + Checks.times("+1", 59)), 2);
        CHECKS.due("ahead without the rule", x.ahead(8, 0), 0);
        CHECKS.due("ahead with rule -1", x.ahead(-1, 0), 0);
        CHECKS.due("ahead without the need", x.ahead(0, 1), 0);
        CHECKS.due("ahead with need -1", x.ahead(0, -1), 0);
    }

    private static void faultsOfPlace() {
        refused("", 0, 0);
        refused("   ", 3, 0);
        refused("spoil", 5, 0);
        refused("spoil ", 6, 0);
        refused("spoil 1 +", 9, 0);
        refused("spoil 1 + ;", 10, 0);
        refused("spoil 1;", 8, 0);
        refused("spoil 1;;", 8, 0);
        refused("spoil 1 2", 8, 0);
        refused("spoil 1 cold", 8, 0);
        refused("Spoil 1", 0, 0);
        refused(" eat 1", 1, 0);
        refused("spoilt 1", 0, 0);
        refused("spo 1", 0, 0);
        refused("spoil -1", 6, 0);
        refused("spoil (1)", 6, 0);
        refused("spoil spoil", 6, 0);
        refused("spoil if", 6, 0);
        refused("spoil not", 6, 0);
        refused("spoil colds", 6, 0);
        refused("spoil co", 6, 0);
        refused("spoil coldz", 6, 0);
        refused("spoil acold", 6, 0);
        refused("spoil coldcold", 6, 0);
        refused("spoil Cold", 6, 0);
        refused("spoil 1\n", 7, 0);
        refused("spoil 1\t", 7, 0);
        refused("spoil 1" + (char) 0, 7, 0);
        refused("spoil 1" + (char) 255, 7, 0);
        refused("spoil 1 if", 10, 0);
        refused("spoil 1 if 1", 12, 0);
        refused("spoil 1 if 1 < 2 <", 17, 0);
        refused("spoil 1 if 1 < = 2", 15, 0);
        refused("spoil 1 if 1 => 2", 14, 0);
        refused("spoil 1 if 1 <> 2", 14, 0);
        refused("spoil 1 if 1 == 2", 14, 0);
        refused("spoil 1 if 1 < 2 and", 20, 0);
        refused("spoil 1 if 1 < 2 if", 17, 0);
        refused("spoil 1 if [1 < 2", 17, 0);
        refused("spoil 1 if [1 < 2;", 17, 0);
        refused("spoil 1 if 1 < 2]", 16, 0);
        refused("spoil 1 if [1 + 2] < 4", 17, 0);
        refused("spoil 1 if []", 12, 0);
        refused("spoil 1 if not", 14, 0);
        refused("spoil 1 if 1 < not 2", 15, 0);
        refused("spoil 1 if 1 < 2 not", 17, 0);
        refused("spoil 1 + 2 < 3", 12, 0);
        refused("hold 1 if 1 < 2", 7, 0);
        refused("hold", 4, 0);
        refused("hold cold", 5, 0);
        refused("hold -1", 5, 0);
        refused("hold 1 + 1", 7, 0);
        refused("give 1 else", 7, 0);
        taken("spoil1");
        taken("  spoil   1  +1 ;first 1if 2<3and 3<4or[not 4<5]");
        taken("spoil 1if1<2;hold 0");
    }

    private static void faultsOfNumbers() {
        taken("spoil 99999");
        taken("spoil 00000");
        refused("spoil 100000", 6, 1);
        refused("spoil 000000", 6, 1);
        refused("spoil 1*1234567", 8, 1);
        refused("spoil 1 123456", 8, 0);
        taken("hold 9999");
        taken("hold 09999");
        refused("hold 10000", 5, 1);
        refused("hold 000001", 5, 1);
        refused("hold 1 123456", 7, 0);
    }

    private static void faultsOfDepth() {
        taken("give 1 if " + Checks.times("[", 10) + "1<2" + Checks.times("]", 10));
        refused("give 1 if " + Checks.times("[", 11) + "1<2" + Checks.times("]", 11), 20, 2);
        taken("give 1 if " + Checks.times("not ", 10) + "1<2");
        refused("give 1 if " + Checks.times("not ", 11) + "1<2", 50, 2);
        refused("give 1 if " + Checks.times("not[", 5) + "not 1<2" + Checks.times("]", 5), 30, 2);
        refused("give 1 if " + Checks.times("not[", 5) + "[1<2" + Checks.times("]", 6), 30, 2);
        taken("give 1 if " + Checks.times("not[", 5) + "1<2" + Checks.times("]", 5));
        taken("give 1 if " + Checks.times("not ", 10) + "1<2 and " + Checks.times("not ", 10) + "1<2 or "
                + Checks.times("[", 10) + "1<2" + Checks.times("]", 10));
        refused("give 1 if [not 1<2 and " + Checks.times("not ", 10) + "1<2]", 59, 2);
        refused("give 1 if " + Checks.times("[", 10) + "notx", 20, 0);
    }

    private static void faultsOfCount() {
        taken("first 1" + Checks.times("+1", 59));
        refused("first 1" + Checks.times("+1", 60), 126, 3);
        refused("first 1" + Checks.times("+1", 59) + "+cold", 126, 3);
        refused("first 1" + Checks.times("+1", 59) + "+colds", 126, 0);
        refused("first 1" + Checks.times("+1", 59) + "+123456", 126, 1);
        refused("first 1" + Checks.times("+1", 59) + "+", 126, 0);
        refused("first 1" + Checks.times("+1", 59) + ";", 126, 0);
        // 58 of the sum, then 1, the sign and 2: the last is one too many
        refused("first 1" + Checks.times("+1", 57) + " if 1<2", 127, 3);
        taken("first 1" + Checks.times("+1", 56) + " if 1<2");
        // 59 of the sum and 1: the sign is one too many
        refused("first 1" + Checks.times("+1", 58) + " if 1 <= 2", 129, 3);
        refused("first 1" + Checks.times("+1", 58) + " if 1 [", 129, 0);
        // over several clauses together
        refused("first 1" + Checks.times("+1", 29) + ";give 1" + Checks.times("+1", 30), 131, 3);
        taken("first 1" + Checks.times("+1", 29) + ";give 1" + Checks.times("+1", 29) + ";hold 3");
    }

    private static void faultsOfClauses() {
        String twelve = Checks.times("give 1;", 11) + "give 1";
        taken(twelve);
        refused(twelve + ";give 1", 84, 4);
        refused(twelve + "; give", 85, 4);
        refused(twelve + ";hold 1", 84, 4);
        refused(twelve + ";", 84, 0);
        refused(twelve + ";;", 84, 0);
        refused(twelve + ";gave 1", 84, 0);
        refused(twelve + ";1", 84, 0);
        taken(Checks.times("give 1;", 11) + "hold 1");
        refused(Checks.times("give 1;", 11) + "hold 1;give 1", 84, 4);
        refused("hold 1;hold 1", 7, 4);
        refused("hold 1;give 1; hold 10000", 15, 4);
        refused("hold 1;hold", 7, 4);
        refused("hold 1;holds", 7, 0);
    }

    private static void sums() {
        first("first 1+2*3", 7);
        first("first 2*3+1", 7);
        first("first 1-2-3", -4);
        first("first 1-2+3", 2);
        first("first 1-2*3-4", -9);
        first("first 100/7/2", 7);
        first("first 100/7*2", 28);
        first("first 2*100/7", 28);
        first("first 7-3*2+8/4-1*5", -2);
        first("first 5/0", 0);
        first("first 1-5/0+3", 4);
        first("first 0-7/2", -3);
        first("first 99999*99999*99999*99999", 99999L * 99999 * 99999 * 99999);
        first("first 65536*65536*65536*65536", 0);
        first("first 65536*65536*65536*32768", Long.MIN_VALUE);
        first("first 65536*65536*65536*32768-1", Long.MAX_VALUE);
    }

    private static void tests() {
        String[] signs = {"<", "<=", "=", ">=", ">"};
        for (int i = 0; i < signs.length; i++) {
            for (int a = 4; a <= 6; a++) {
                boolean holds = i == 0 && a < 5 || i == 1 && a <= 5 || i == 2 && a == 5
                        || i == 3 && a >= 5 || i == 4 && a > 5;
                first("first 8 if " + a + signs[i] + "2+3;first 9", holds ? 8 : 9);
            }
        }
        String yes = "1<2";
        String no = "2<1";
        first("first 8 if " + no + " and " + no + " or " + yes, 8);
        first("first 8 if " + yes + " or " + yes + " and " + no, 8);
        first("first 8 if " + no + " or " + yes + " and " + no + " or " + no, 0);
        first("first 8 if [" + yes + " or " + yes + "] and " + no, 0);
        first("first 8 if not " + no + " and " + yes, 8);
        first("first 8 if not " + yes + " or " + yes, 8);
        first("first 8 if not [" + no + " or " + yes + "]", 0);
        first("first 8 if not not " + yes, 8);
        first("first 8 if " + yes + " or " + no + " or " + no, 8);
        first("first 8 if " + no + " or " + yes + " or " + no + " and " + no, 8);
        first("first 8 if " + yes + " and " + no + " and " + yes, 0);
        first("first 8 if [" + yes + " and [" + no + " or not [" + yes + " and " + no + "]]] and " + yes, 8);
        first("first 8 if not not not " + yes, 0);
        first("first 8 if not [not " + yes + "] and not [" + no + " and " + yes + "]", 8);
        first("first 8 if 1-2<0", 8);
    }

    private static void wordsOfFirst() {
        first("first quarter", 30);
        first("first hour", 7);
        first("first until", 170);
        first("first people", 7);
        first("first house", 1);
        first("first cold", 61);
        first("first good", 4);
        first("first harm", 13);
        first("first lack", 17);
        first("first own", 23);
        for (String word : new String[] {"store", "tie", "given", "got", "far"}) {
            first("first 5+" + word, 5);
        }
    }

    private static void clauses() {
        first("give 3;first 1 if 2<1;first 2 if 1<2;first 3", 2);
        first("first 1 if 2<1;first 3;first 4", 3);
        first("first 1 if 2<1", 0);
        first("give 3; spoil 4; hold 2", 0);
    }
}
