/**
 * The sentences of the document that name a boundary of the rules' language: promises 14 and 21.
 */
public final class RuleBoundsTest {
    private static final Checks CHECKS = new Checks("bounds of rules");
    private static final int CANNOT_STAND = 0;
    private static final int BAD_NUMBER = 1;
    private static final int TOO_DEEP = 2;
    private static final int TOO_MANY = 3;
    private static final int ONE_CLAUSE_MORE = 4;
    /** The least number of 64 bits, made of six values. */
    private static final String LEAST = "65536*65536*65536*32768";

    public static void main(String[] args) {
        rules0To7();
        textsOf400Bytes();
        theEnd();
        wordsAsFarAsTheseGoOn();
        numbersOf1To5Digits();
        holdOf0To9999();
        holdOnceAtMost();
        blanks();
        signs();
        bytesThatCannotStand();
        tenDeep();
        deepestSums();
        sixtyTogether();
        twelveClauses();
        nothingIsLeftOfFaults();
        ofOnePlaceTheLeast();
        theFirstAlongTheText();
        byTowards0();
        roundIn64Bits();
        comparing();
        factsTogether();
        theFirstOfItsSort();
        aheadWithoutThese();
        CHECKS.close();
    }

    private static void refused(String text, int place, int kind) {
        Talk talk = new Talk(CHECKS, "[" + text + "]");
        talk.feed(0, text);
        talk.due(Checks.fault(place, kind), "rule");
        talk.due(0, "count", 5);
        talk.due(0, "count", 10);
        // What could not be read leaves nothing behind: the next one is the first rule.
        talk.feed(0, "first 5 if good=0;first 6");
        talk.due(0, "rule");
        talk.ask("house", 0, 0, 0);
        talk.ask("need", 0, 1, 1, 1, 0, 0, 0);
        talk.due(6, "ahead", 0, 0);
    }

    private static void taken(String text) {
        Talk talk = new Talk(CHECKS, "[" + text + "]");
        talk.feed(0, text);
        talk.due(0, "rule");
        talk.due(1, "count", 5);
        talk.due(0, "count", 10);
    }

    /** What first of a need is: of a house without anything, 3 of good 4 with harm 7. */
    private static void first(String text, long want) {
        Talk talk = new Talk(CHECKS, "[" + text + "]");
        talk.ask("house", 1, 1, 0);
        talk.ask("need", 0, 4, 3, 7, 0, 0, 0);
        talk.feed(0, text);
        talk.due(0, "rule");
        talk.due(want, "ahead", 0, 0);
    }

    private static String padded(String text, int length) {
        return Checks.times(" ", length - text.length()) + text;
    }

    private static void rules0To7() {
        Talk talk = new Talk(CHECKS, "NONE, and nothing happens: there are 8");
        talk.ask("house", 0, 0, 0);
        talk.ask("need", 0, 0, 1, 1, 0, 0, 0);
        for (int r = 0; r < 8; r++) {
            talk.feed(0, "first 1" + r + ";");
            talk.due(Checks.fault(9, CANNOT_STAND), "rule");
            talk.due(r, "count", 5);
            talk.feed(0, "first 1" + r);
            talk.due(r, "rule");
        }
        talk.feed(0, "first 18");
        talk.refused(-1, "rule", new int[0], new int[0]);
        talk.due(8, "count", 10);
        talk.due(0, "end", 0);
        talk.refused(-1, "rule", new int[0]);
        for (int r = 0; r < 8; r++) {
            talk.due(10 + r, "ahead", r, 0);
        }
        talk.due(0, "ahead", 8, 0);
    }

    private static void textsOf400Bytes() {
        taken("spoil 1" + Checks.times(" ", 393));
        taken(padded("spoil 1", 400));
        taken(padded("spoil 99999", 400));
        taken(padded("spoil cold", 400));
        taken(padded("hold 9999", 400));
        taken(padded("give 1 if [1<2]", 400));
        refused(padded("spoil 1;", 400), 400, CANNOT_STAND);
        refused(padded("spoil", 400), 400, CANNOT_STAND);
        refused(padded("spoil co", 400), 398, CANNOT_STAND);
        refused(padded("spoil coldc", 400), 395, CANNOT_STAND);
        refused(padded("spoil 1 if 1<", 400), 400, CANNOT_STAND);
        refused(padded("spoil 1 if 1<=", 400), 400, CANNOT_STAND);
        refused(padded("spoil 1 if not", 400), 400, CANNOT_STAND);
        refused(padded("spoil 1 if [1<2", 400), 400, CANNOT_STAND);
        refused(padded("spoil 100000", 400), 394, BAD_NUMBER);
        refused(Checks.times(" ", 400), 400, CANNOT_STAND);
        refused("spoil " + Checks.times("1", 394), 6, BAD_NUMBER);
        refused("spoil " + Checks.times("a", 394), 6, CANNOT_STAND);
        refused(Checks.times("a", 400), 0, CANNOT_STAND);
        refused("give 1 if " + Checks.times("[", 390), 20, TOO_DEEP);
        refused("give 1 if" + Checks.times(" not", 97), 50, TOO_DEEP);
        refused(Checks.times(";", 400), 0, CANNOT_STAND);
        // Of what stood on the tape before only its first bytes count.
        Talk talk = new Talk(CHECKS, "behind the end stands nothing");
        talk.feed(0, "spoil colder");
        talk.due(10, "end", 10);
        talk.due(0, "rule");
        talk.feed(0, "spoil 1 if 1<=2");
        talk.due(13, "end", 13);
        talk.due(Checks.fault(13, CANNOT_STAND), "rule");
        talk.feed(0, "spoil 123456");
        talk.due(11, "end", 11);
        talk.due(1, "rule");
        talk.feed(0, "spoil cold");
        talk.due(8, "end", 8);
        talk.due(Checks.fault(6, CANNOT_STAND), "rule");
    }

    private static void theEnd() {
        String[] early = {"", "spoil", "first", "give", "hold", "spoil 1+", "spoil 1-", "spoil 1*", "spoil 1/",
            "spoil 1 if", "spoil 1 if not", "spoil 1 if [", "spoil 1 if 1", "spoil 1 if 1+", "spoil 1 if 1<",
            "spoil 1 if 1<1 and", "spoil 1 if 1<1 or", "spoil 1 if [1<1", "spoil 1;", "hold 1;", "spoil 1 if 1=1;"};
        for (String text : early) {
            refused(text, text.length(), CANNOT_STAND);
            refused(text + "   ", text.length() + 3, CANNOT_STAND);
        }
    }

    private static void wordsAsFarAsTheseGoOn() {
        refused("spoilcold", 0, CANNOT_STAND);
        refused("spoils 1", 0, CANNOT_STAND);
        refused("spoi 1", 0, CANNOT_STAND);
        refused("firs 1", 0, CANNOT_STAND);
        refused("giv 1", 0, CANNOT_STAND);
        refused("hol 1", 0, CANNOT_STAND);
        refused("holds 1", 0, CANNOT_STAND);
        refused("spoil coldif 1<2", 6, CANNOT_STAND);
        refused("spoil cold ifnot 1<2", 11, CANNOT_STAND);
        refused("spoil 1 if 1<2orcold<3", 14, CANNOT_STAND);
        refused("spoil 1 if 1<2andnot 1<2", 14, CANNOT_STAND);
        refused("spoil 1 if notcold<3", 11, CANNOT_STAND);
        refused("spoil 1 if no 1<3", 11, CANNOT_STAND);
        refused("spoil 1 i 1<3", 8, CANNOT_STAND);
        refused("spoil 1 if 1<3 an 1<3", 15, CANNOT_STAND);
        refused("spoil 1 if 1<3 o 1<3", 15, CANNOT_STAND);
        taken("spoil cold if[1<2]or not 1<2and 3<cold;first 1");
        taken("spoil1if1<2or3<4and5<6;first2;give3;hold4");
        String[] values = {"quarter", "hour", "until", "people", "house", "cold", "good", "harm", "lack", "own",
            "store", "tie", "given", "got", "far"};
        for (String value : values) {
            taken("give " + value);
            taken("give 1+" + value + "*2;first 1 if " + value + "<" + value);
            refused("give " + value + "s", 5, CANNOT_STAND);
            refused("give " + value.substring(0, value.length() - 1), 5, CANNOT_STAND);
            refused("give " + value.substring(1), 5, CANNOT_STAND);
            refused("give a" + value, 5, CANNOT_STAND);
            refused("give 1" + value, 6, CANNOT_STAND);
            refused(value + " 1", 0, CANNOT_STAND);
        }
        String[] others = {"spoil", "first", "give", "hold", "if", "and", "or", "not"};
        for (String other : others) {
            refused("give " + other, 5, CANNOT_STAND);
            refused("give 1+" + other, 7, CANNOT_STAND);
        }
    }

    private static void numbersOf1To5Digits() {
        first("first 0", 0);
        first("first 9", 9);
        first("first 99999", 99999);
        first("first 00007", 7);
        first("first 00000", 0);
        first("first 10000", 10000);
        refused("first 100000", 6, BAD_NUMBER);
        refused("first 000000", 6, BAD_NUMBER);
        refused("first 999999", 6, BAD_NUMBER);
        refused("first 4294967297", 6, BAD_NUMBER);
        refused("first 18446744073709551617", 6, BAD_NUMBER);
        refused("first 1 if 2<100000", 13, BAD_NUMBER);
        refused("first 1 if 100000<2", 11, BAD_NUMBER);
        refused("first 1/000001", 8, BAD_NUMBER);
        refused("first 12345 6", 12, CANNOT_STAND);
        refused("first -1", 6, CANNOT_STAND);
        refused("first +1", 6, CANNOT_STAND);
    }

    private static void holdOf0To9999() {
        taken("hold 0");
        taken("hold 9999");
        taken("hold 09999");
        taken("hold 00000");
        refused("hold 10000", 5, BAD_NUMBER);
        refused("hold 99999", 5, BAD_NUMBER);
        refused("hold 009999", 5, BAD_NUMBER);
        refused("hold 000000", 5, BAD_NUMBER);
        refused("hold -1", 5, CANNOT_STAND);
        refused("hold cold", 5, CANNOT_STAND);
        refused("hold 1+1", 6, CANNOT_STAND);
        refused("hold 1 if 1<2", 7, CANNOT_STAND);
        refused("hold ;give 1", 5, CANNOT_STAND);
        // Each hold leaves 11 less hold to give away, of which 10 are needed.
        int[] holds = {0, 1, 2, 10, 11, 12, 9999};
        int[] lacking = {0, 0, 1, 9, 10, 10, 10};
        for (int i = 0; i < holds.length; i++) {
            gets("give 99;hold " + holds[i], lacking[i]);
            gets("hold " + holds[i] + ";give 99", lacking[i]);
        }
        gets("give 99", 0);
    }

    /** What a house lacks of 10 that another one with 11 could give. */
    private static void gets(String text, int lacking) {
        Talk talk = new Talk(CHECKS, "[" + text + "]");
        talk.ask("house", 0, 0, 0);
        talk.ask("house", 1, 0, 0);
        talk.ask("tie", 1, 0, 1);
        talk.ask("store", 1, 4, 11);
        talk.ask("need", 0, 4, 10, 1, 0, 95, 0);
        talk.feed(0, text);
        talk.due(0, "rule");
        talk.due(lacking, "total", 0, 1, 0);
    }

    private static void holdOnceAtMost() {
        taken("hold 1");
        taken("give 1;hold 1;give 2");
        refused("hold 1;hold 1", 7, ONE_CLAUSE_MORE);
        refused("hold 1;  hold 1", 9, ONE_CLAUSE_MORE);
        refused("hold 1;give 1;hold", 14, ONE_CLAUSE_MORE);
        refused("hold 0;hold 0", 7, ONE_CLAUSE_MORE);
        refused("hold 1;holding", 7, CANNOT_STAND);
        refused("hold;hold", 4, CANNOT_STAND);
        refused("hold 10000;hold 1", 5, BAD_NUMBER);
    }

    private static void blanks() {
        taken("   spoil   1   +   cold   *   2   if   not   [   1   <=   2   ]   ;   hold   3   ");
        taken("spoil 1+cold*2if not[1<=2];hold 3");
        int[] others = {0, 9, 10, 13, 31, 33, 127, 128, 160, 255};
        for (int other : others) {
            String sign = String.valueOf((char) other);
            refused(sign + "spoil 1", 0, CANNOT_STAND);
            refused("spoil" + sign + "1", 5, CANNOT_STAND);
            refused("spoil 1" + sign, 7, CANNOT_STAND);
            refused("spoil 1 +" + sign + "1", 9, CANNOT_STAND);
            refused("spoil 1 if 1 <" + sign + "1", 14, CANNOT_STAND);
            refused("hold" + sign + "1", 4, CANNOT_STAND);
        }
    }

    private static void signs() {
        for (String sign : new String[] {"<", "<=", "=", ">=", ">"}) {
            taken("spoil 1 if 1" + sign + "2");
            taken("spoil 1 if 1 " + sign + " 2");
        }
        refused("spoil 1 if 1< =2", 14, CANNOT_STAND);
        refused("spoil 1 if 1> =2", 14, CANNOT_STAND);
        refused("spoil 1 if 1=<2", 13, CANNOT_STAND);
        refused("spoil 1 if 1=>2", 13, CANNOT_STAND);
        refused("spoil 1 if 1==2", 13, CANNOT_STAND);
        refused("spoil 1 if 1<==2", 14, CANNOT_STAND);
        refused("spoil 1 if 1<>2", 13, CANNOT_STAND);
        refused("spoil 1 if 1<<2", 13, CANNOT_STAND);
        refused("spoil 1 if 1!2", 12, CANNOT_STAND);
        refused("spoil 1 if 1!=2", 12, CANNOT_STAND);
        refused("spoil 1 if 1<2<3", 14, CANNOT_STAND);
        refused("spoil 1 if 1", 12, CANNOT_STAND);
        refused("spoil 1 if 1]", 12, CANNOT_STAND);
        refused("spoil 1 if 1 and 2<3", 13, CANNOT_STAND);
        refused("spoil 1<2", 7, CANNOT_STAND);
        refused("spoil 1**2", 8, CANNOT_STAND);
        refused("spoil 1+-2", 8, CANNOT_STAND);
        refused("spoil 1--2", 8, CANNOT_STAND);
        refused("spoil [1]", 6, CANNOT_STAND);
        refused("spoil 1 if [1]<2", 13, CANNOT_STAND);
        refused("spoil 1 if ]", 11, CANNOT_STAND);
        refused("spoil 1 if []", 12, CANNOT_STAND);
        refused("spoil 1 if [1<2]]", 16, CANNOT_STAND);
        refused("spoil 1 if [1<2 1<2]", 16, CANNOT_STAND);
        refused("spoil 1 if [1<2;", 15, CANNOT_STAND);
        refused("spoil 1 if [1<2][1<2]", 16, CANNOT_STAND);
        refused("spoil 1 if 1<2 and or 1<2", 19, CANNOT_STAND);
        refused("spoil 1 if and 1<2", 11, CANNOT_STAND);
        refused("spoil 1 if if 1<2", 11, CANNOT_STAND);
        refused("spoil 1 if 1<2 if 1<2", 15, CANNOT_STAND);
        refused("spoil 1 if 1<2 + 1<3", 18, CANNOT_STAND);
    }

    private static void bytesThatCannotStand() {
        // The neighbours of small letters and of digits.
        refused("spoil cold`", 10, CANNOT_STAND);
        refused("spoil cold{", 10, CANNOT_STAND);
        refused("spoil `cold", 6, CANNOT_STAND);
        refused("spoil 1:", 7, CANNOT_STAND);
        refused("spoil :1", 6, CANNOT_STAND);
        refused("spoil 1/", 8, CANNOT_STAND);
        refused("spoil COLD", 6, CANNOT_STAND);
        refused("spoil colD", 6, CANNOT_STAND);
        refused("spoil coldA", 10, CANNOT_STAND);
        refused("SPOIL 1", 0, CANNOT_STAND);
        refused("spoil 1,first 2", 7, CANNOT_STAND);
        refused("spoil 1.5", 7, CANNOT_STAND);
        refused("spoil (1)", 6, CANNOT_STAND);
        refused(";spoil 1", 0, CANNOT_STAND);
        refused("spoil 1;;first 2", 8, CANNOT_STAND);
        refused("1", 0, CANNOT_STAND);
        refused("123456", 0, CANNOT_STAND);
        refused("[", 0, CANNOT_STAND);
        refused("not", 0, CANNOT_STAND);
        refused("if 1<2", 0, CANNOT_STAND);
        refused("spoil 1 2", 8, CANNOT_STAND);
        refused("spoil 1 cold", 8, CANNOT_STAND);
        refused("spoil cold cold", 11, CANNOT_STAND);
        refused("spoil 1 not 1<2", 8, CANNOT_STAND);
        refused("spoil 1 and 1<2", 8, CANNOT_STAND);
        refused("spoil 1 spoil 1", 8, CANNOT_STAND);
        for (int sign = 0; sign < 256; sign++) {
            boolean letter = sign >= 'a' && sign <= 'z';
            boolean digit = sign >= '0' && sign <= '9';
            if (sign == ' ') {
                refused(" ", 1, CANNOT_STAND);
                taken("give 1 ");
            } else {
                refused(String.valueOf((char) sign), 0, CANNOT_STAND);
                if (!letter && !digit && "+-*/;".indexOf(sign) < 0) {
                    refused("give 1" + (char) sign, 6, CANNOT_STAND);
                    refused("give own" + (char) sign, 8, CANNOT_STAND);
                }
            }
        }
    }

    private static void tenDeep() {
        String open = "give 1 if ";
        taken(open + Checks.times("[", 10) + "1<2" + Checks.times("]", 10));
        refused(open + Checks.times("[", 11) + "1<2" + Checks.times("]", 11), 20, TOO_DEEP);
        refused(open + Checks.times("[", 10) + "[", 20, TOO_DEEP);
        refused(open + Checks.times("[", 10) + " not", 21, TOO_DEEP);
        refused(open + Checks.times("[", 10) + "]", 20, CANNOT_STAND);
        refused(open + Checks.times("[", 10) + "nots", 20, CANNOT_STAND);
        refused(open + Checks.times("[", 10) + "1<2" + Checks.times("]", 11), 33, CANNOT_STAND);
        refused(open + Checks.times("[", 10) + "1<2" + Checks.times("]", 9), 32, CANNOT_STAND);
        taken(open + Checks.times("not ", 10) + "1<2");
        refused(open + Checks.times("not ", 11) + "1<2", 50, TOO_DEEP);
        refused(open + Checks.times("not ", 10) + "not", 50, TOO_DEEP);
        refused(open + Checks.times("not ", 10) + "[1<2]", 50, TOO_DEEP);
        refused(open + Checks.times("not ", 10) + "]", 50, CANNOT_STAND);
        taken(open + Checks.times("not ", 9) + "[1<2]");
        refused(open + Checks.times("not ", 9) + "[[1<2]]", 47, TOO_DEEP);
        refused(open + Checks.times("not ", 9) + "[not 1<2]", 47, TOO_DEEP);
        taken(open + Checks.times("[", 9) + "not 1<2" + Checks.times("]", 9));
        refused(open + Checks.times("[", 9) + "not not 1<2", 23, TOO_DEEP);
        refused(open + Checks.times("[not ", 5) + "[1<2", 35, TOO_DEEP);
        refused(open + Checks.times("[not ", 5) + "not 1<2", 35, TOO_DEEP);
        taken(open + Checks.times("[not ", 5) + "1<2" + Checks.times("]", 5));
        // What is closed is no more around what comes.
        taken(open + Checks.times("[", 10) + "1<2" + Checks.times("]", 10) + " and " + Checks.times("[", 10) + "1<2"
                + Checks.times("]", 10) + " or " + Checks.times("not ", 10) + "1<2;give 2 if " + Checks.times("[", 10)
                + "1<2" + Checks.times("]", 10));
        taken(open + "[" + Checks.times("not ", 9) + "1<2 and " + Checks.times("[", 9) + "1<2" + Checks.times("]", 9)
                + "]");
        refused(open + "[1<2 and " + Checks.times("not ", 10) + "1<2]", 55, TOO_DEEP);
        refused(open + "[1<2]and" + Checks.times("[", 11), 28, TOO_DEEP);
        refused(open + "not 1<2 and " + Checks.times("[", 11), 32, TOO_DEEP);
        first("first 8 if " + Checks.times("not ", 10) + "1<2", 8);
        first("first 8 if " + Checks.times("not ", 9) + "1<2", 0);
        first("first 8 if " + Checks.times("[", 10) + "1<2" + Checks.times("]", 10), 8);
    }

    /** As much is open at once as can be. */
    private static void deepestSums() {
        String level = "2<1or 1<2and[";
        first("first 8 if " + Checks.times(level, 9) + "8=2+2*3" + Checks.times("]", 9), 8);
        first("first 8 if " + Checks.times(level, 9) + "9=2+2*3" + Checks.times("]", 9), 0);
        String other = "1<2and[";
        first("first 8 if " + Checks.times(other, 10) + "2<1or 2<1or 1<2and 7=1+2*3" + Checks.times("]", 10), 8);
        first("first 8 if " + Checks.times(other, 10) + "2<1or 2<1or 1<2and 8=1+2*3" + Checks.times("]", 10), 0);
    }

    private static void sixtyTogether() {
        String sixty = "first 1" + Checks.times("+1", 59);
        taken(sixty);
        first(sixty, 60);
        refused(sixty + "+1", 126, TOO_MANY);
        refused(sixty + "+ 1", 127, TOO_MANY);
        refused(sixty + "-own", 126, TOO_MANY);
        refused(sixty + "*1", 126, TOO_MANY);
        refused(sixty + " if 1<2", 129, TOO_MANY);
        refused(sixty + ";first 1", 132, TOO_MANY);
        refused(sixty + ";hold 1;give 1", 138, TOO_MANY);
        taken(sixty + ";hold 1");
        taken("hold 1;" + sixty);
        String fiftySeven = "first 1" + Checks.times("+1", 56);
        taken(fiftySeven + " if 1<2");
        refused(fiftySeven + " if 1<2+3", 127, TOO_MANY);
        refused(fiftySeven + " if 1<2 and 3<4", 131, TOO_MANY);
        taken(fiftySeven + " if not [not 1<2]");
        refused(fiftySeven + "+1 if 1<2", 127, TOO_MANY);
        refused(fiftySeven + "+1+1 if 1<2", 128, TOO_MANY);
        refused(fiftySeven + "+1+1 if 1  <=2", 130, TOO_MANY);
        refused(fiftySeven + "+1+1+1 if 1<2", 129, TOO_MANY);
        // Twelve clauses of five each: two values, a value, its sign, a value.
        String five = "give 1+2 if 3<4";
        taken(Checks.times(five + ";", 11) + five);
        refused(Checks.times(five + ";", 11) + "give 1+2 if 3+4<5", 192, TOO_MANY);
        // Facts alone: 19 of three, with a value for the sum and two for another one.
        String facts = "give 1 if " + Checks.times("1<2or ", 18) + "1<2";
        taken(facts + ";give 1+1");
        refused(facts + ";give 1+1+1", facts.length() + 10, TOO_MANY);
        refused(facts + " or 1<2", facts.length() + 6, TOO_MANY);
        first("first 9 if " + Checks.times("2<1or ", 18) + "1<2", 9);
        first("first 9 if " + Checks.times("1<2and ", 18) + "2<1;first 3", 3);
    }

    private static void twelveClauses() {
        String eleven = "spoil 1;first 1;give 1;spoil 1;first 1;give 1;spoil 1;first 1;give 1;spoil 1;first 1;";
        taken(eleven + "give 1");
        taken(eleven + "hold 1");
        taken("hold 1;" + eleven.substring(8) + "give 1");
        int behind = eleven.length() + 7;
        refused(eleven + "give 1;give 1", behind, ONE_CLAUSE_MORE);
        refused(eleven + "give 1;  spoil", behind + 2, ONE_CLAUSE_MORE);
        refused(eleven + "give 1;first", behind, ONE_CLAUSE_MORE);
        refused(eleven + "give 1;hold 1", behind, ONE_CLAUSE_MORE);
        refused(eleven + "hold 1;hold 1", behind, ONE_CLAUSE_MORE);
        refused(eleven + "hold 1;give 1", behind, ONE_CLAUSE_MORE);
        refused(eleven + "give 1;", behind, CANNOT_STAND);
        refused(eleven + "give 1 ; ", behind + 2, CANNOT_STAND);
        refused(eleven + "give 1;if", behind, CANNOT_STAND);
        refused(eleven + "give 1;7", behind, CANNOT_STAND);
        refused(eleven + "give 1;gives", behind, CANNOT_STAND);
        refused(eleven, behind - 7, CANNOT_STAND);
        first(Checks.times("first 1 if 2<1;", 11) + "first 7", 7);
        first(Checks.times("first 1 if 2<1;", 11) + "first 7 if 1<2", 7);
        first(Checks.times("first 1 if 2<1;", 11) + "hold 7", 0);
        first(Checks.times("first 1 if 2<1;", 11) + "first 7 if 2<1", 0);
        first(Checks.times("give 1;", 11) + "first 7", 7);
        first(Checks.times("give 1;", 11) + "spoil 7", 0);
        first("first 7;" + Checks.times("give 1;", 11).substring(0, 76), 7);
    }

    /** However often a text of the same number could not be read before. */
    private static void nothingIsLeftOfFaults() {
        Talk talk = new Talk(CHECKS, "behind faults");
        talk.ask("house", 0, 0, 0);
        talk.ask("need", 0, 4, 1, 1, 0, 0, 0);
        String sixty = "first 1" + Checks.times("+1", 59);
        for (int i = 0; i < 8; i++) {
            talk.feed(0, "hold 9;" + sixty + "+1");
            talk.due(Checks.fault(133, TOO_MANY), "rule");
        }
        talk.feed(0, sixty);
        talk.due(0, "rule");
        talk.due(60, "ahead", 0, 0);
        talk.feed(0, "first 123456");
        talk.due(Checks.fault(6, BAD_NUMBER), "rule");
        talk.feed(0, "first good*good if good>cold");
        talk.due(1, "rule");
        talk.due(16, "ahead", 1, 0);
    }

    private static void ofOnePlaceTheLeast() {
        String sixty = "first 1" + Checks.times("+1", 59);
        refused(sixty + "+123456", 126, BAD_NUMBER);
        refused(sixty + "+colds", 126, CANNOT_STAND);
        refused(sixty + "+[", 126, CANNOT_STAND);
        refused(sixty + "+", 126, CANNOT_STAND);
        refused("first 1" + Checks.times("+1", 58) + " if 1 and", 129, CANNOT_STAND);
        refused("first 1" + Checks.times("+1", 58) + " if 1", 128, CANNOT_STAND);
    }

    private static void theFirstAlongTheText() {
        refused("first 100000;first ]", 6, BAD_NUMBER);
        refused("first ];first 100000", 6, CANNOT_STAND);
        refused("first 1 if " + Checks.times("[", 11) + "100000", 21, TOO_DEEP);
        refused("first 1 if 100000<" + Checks.times("[", 11), 11, BAD_NUMBER);
        refused("first 1" + Checks.times("+1", 60) + "+]", 126, TOO_MANY);
        refused("hold 1;hold 100000", 7, ONE_CLAUSE_MORE);
        refused("hold 1;first 100000;hold 1", 13, BAD_NUMBER);
        refused("first 1 if 1< and 1<", 14, CANNOT_STAND);
        refused("first 1 if 1+ and 1<", 14, CANNOT_STAND);
        refused("first 1 if 1<2+ or 1<", 16, CANNOT_STAND);
        refused("first 1 if [1< ] and 1<", 15, CANNOT_STAND);
        refused("first 1 if [1<2 and ] and 1<", 20, CANNOT_STAND);
        refused("first 1 if and and 1<", 11, CANNOT_STAND);
        refused("first 1+ if 1<", 9, CANNOT_STAND);
        refused("first ; give 100000", 6, CANNOT_STAND);
        refused("hold 10000 ; give 100000", 5, BAD_NUMBER);
    }

    private static void byTowards0() {
        first("first 7/2", 3);
        first("first 6/7", 0);
        first("first 0/7", 0);
        first("first 7/1", 7);
        first("first 0-7/2", -3);
        first("first " + LEAST + "/2", Long.MIN_VALUE / 2);
        first("first " + LEAST + "/99999", -92234642714974L);
        first("first " + LEAST + "/65536/65536/65536/32768", -1);
        first("first " + LEAST + "/65536/65536/65536/32769", 0);
        first("first 5/0", 0);
        first("first 0/0", 0);
        first("first 5/0*3+1", 1);
        first("first 5/own", 0);
        first("first 9-5/own", 9);
        first("first 5/1/0", 0);
        first("first 8 if 5/0=0", 8);
    }

    private static void roundIn64Bits() {
        first("first " + LEAST, Long.MIN_VALUE);
        first("first " + LEAST + "-1", Long.MAX_VALUE);
        first("first " + LEAST + "-1+1", Long.MIN_VALUE);
        first("first " + LEAST + "+" + LEAST, 0);
        first("first 0-" + LEAST, Long.MIN_VALUE);
        first("first " + LEAST + "*2", 0);
        first("first " + LEAST + "*3", Long.MIN_VALUE);
        first("first 65536*65536*65536*32767+65535*65536*65536+65535*65536+65535",
                32767L << 48 | 65535L << 32 | 65535L << 16 | 65535L);
        first("first 99999*99999*99999*99999*99999", 99999L * 99999 * 99999 * 99999 * 99999);
        first("first 65536*65536", 1L << 32);
        first("first 99999*99999", 9999800001L);
    }

    private static void comparing() {
        String[] signs = {"<", "<=", "=", ">=", ">"};
        boolean[] less = {true, true, false, false, false};
        boolean[] same = {false, true, true, true, false};
        boolean[] more = {false, false, false, true, true};
        for (int i = 0; i < signs.length; i++) {
            first("first 8 if 4" + signs[i] + "5", less[i] ? 8 : 0);
            first("first 8 if 5" + signs[i] + "5", same[i] ? 8 : 0);
            first("first 8 if 6" + signs[i] + "5", more[i] ? 8 : 0);
            first("first 8 if " + LEAST + signs[i] + "0", less[i] ? 8 : 0);
            first("first 8 if " + LEAST + "-1" + signs[i] + LEAST, more[i] ? 8 : 0);
            first("first 8 if 65536*65536" + signs[i] + "0", more[i] ? 8 : 0);
        }
    }

    /** Each sign, holding and not, beside each other one: not, and, or make of them what is due. */
    private static void factsTogether() {
        String[] holds = {"1<2", "1<=2", "2<=2", "2=2", "2>=2", "2>=1", "2>1"};
        String[] fails = {"2<2", "2<1", "2<=1", "1=2", "1>=2", "2>2", "1>2"};
        for (String yes : holds) {
            first("first 8 if " + yes, 8);
            first("first 8 if not " + yes, 0);
            first("first 8 if not not " + yes, 8);
            for (String other : holds) {
                first("first 8 if " + yes + " and " + other, 8);
                first("first 8 if not [" + yes + " and " + other + "]", 0);
                first("first 8 if not [" + yes + " or " + other + "]", 0);
                first("first 8 if not " + yes + " or not " + other, 0);
            }
            for (String no : fails) {
                first("first 8 if " + yes + " and " + no, 0);
                first("first 8 if " + no + " and " + yes, 0);
                first("first 8 if " + yes + " or " + no, 8);
                first("first 8 if " + no + " or " + yes, 8);
                first("first 8 if not " + no + " and " + yes, 8);
                first("first 8 if " + no + " or " + no, 0);
            }
        }
    }

    private static void theFirstOfItsSort() {
        first("spoil 1;give 2;hold 3", 0);
        first("first 1;first 2", 1);
        first("first 1 if 2<1;first 2", 2);
        first("first 1 if 2<1;first 2 if 2<1", 0);
        first("first 1 if 1<2;first 2", 1);
        first("give 1;first 2 if 1<2;first 3", 2);
        first("first 0;first 3", 0);
    }

    private static void aheadWithoutThese() {
        Talk talk = new Talk(CHECKS, "0 also without these");
        talk.due(0, "ahead", 0, 0);
        talk.rule("first 5+quarter");
        talk.due(0, "ahead", 0, 0);
        talk.ask("house", 0, 0, 0);
        talk.ask("need", 0, 0, 1, 1, 95, 95, 1);
        talk.due(5, "ahead", 0, 0);
        talk.due(0, "ahead", 1, 0);
        talk.due(0, "ahead", -1, 0);
        talk.due(0, "ahead", 0, 1);
        talk.due(0, "ahead", 0, -1);
        talk.ask("run", 0, 1);
        talk.due(6, "ahead", 0, 0);
    }
}
