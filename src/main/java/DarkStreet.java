/**
 * A street without current: what its houses have, need, make and give one another,
 * quarter by quarter, by rules that are told in a small language.
 *
 * All that a call needs is made in the constructors and used again, so that calls make
 * nothing new but an image or a rule that was not there before.
 */
public final class DarkStreet {
    public static final int NONE = -1;

    /** The answer where there is nothing to choose from. */
    private static final int NOTHING = -2;
    private static final long NO_DIFFERENCE = -1000000000000L;

    private static final int GOODS = 6;
    private static final int CURRENT = 0;
    private static final int COLD = 1;

    private static final int MOST_HOUSES = 12;
    private static final int MOST_NEEDS = 40;
    private static final int MOST_MAKERS = 12;
    private static final int MOST_CABLES = 20;
    private static final int MOST_RULES = 8;
    private static final int MOST_ITEMS = 6;
    private static final int MOST_ENDS = 6;
    private static final int MOST_TURNERS = 5;
    private static final int MOST_TURNS = 7;
    private static final int MOST_DOORS = 6;
    private static final int MOST_IMAGES = 4;
    private static final int MOST_BYTES = 400;
    private static final int MOST_STORE = 99999;
    private static final int CURRENT_OF_BACK = 9999;

    private static final int LAST_NOW = 9999;
    private static final int LAST_END = 99999;
    private static final int DAY = 96;
    private static final int QUARTERS_AHEAD = 60;
    private static final int QUARTERS_TO_CHOOSE = 20;
    private static final int QUARTERS_TO_COOK = 400;
    private static final int UNTIL_UNSAID = 999;

    private static final int BY_RULE = 0;
    private static final int ALONE = 1;
    private static final int TOGETHER = 2;

    // The columns of a house's row; its stores are the columns 0 to 5.
    private static final int PEOPLE = 6;
    private static final int IS_BACK = 7;
    private static final int X = 8;
    private static final int Y = 9;
    private static final int ODDS = 10;

    // The columns of the rows of needs, makers and items, which begin alike.
    private static final int HOUSE = 0;
    private static final int GOOD = 1;
    private static final int MUCH = 2;
    private static final int HARM = 3;
    private static final int FROM = 4;
    private static final int TO = 5;
    private static final int KNOWN = 6;
    private static final int MAKES = 3;
    private static final int MANY = 4;
    private static final int NOISE = 5;
    private static final int IS_ON = 6;
    private static final int PRICE = 3;

    // The columns of a cable's row.
    private static final int CARRY = 0;
    private static final int CARRIED = 1;

    // The columns of an end's row.
    private static final int QUARTER = 0;
    private static final int WEIGHT = 1;

    // The columns of a turner's row; one that was never told lasts 0.
    private static final int LASTS = 0;
    private static final int LEFT = 1;
    private static final int PAINS = 2;

    private final Town town;
    /** Where is tried what would come; what is tried never touches the town itself. */
    private final Town trial;
    private final Town[] images;
    private final Rule[] rules;
    private int ruleCount;
    private final int[] tape;
    private int tapeBytes;
    private final Reader reader;
    private final Quarters quarters;
    private final Walks walks;
    private final Turns turns;
    private final Hearsay hearsay;

    public DarkStreet() {
        town = new Town();
        trial = new Town();
        images = new Town[MOST_IMAGES];
        rules = new Rule[MOST_RULES];
        tape = new int[MOST_BYTES];
        reader = new Reader();
        quarters = new Quarters();
        walks = new Walks();
        turns = new Turns();
        hearsay = new Hearsay();
    }

    private static boolean within(int n, int least, int most) {
        return n >= least && n <= most;
    }

    private static boolean isGood(int good) {
        return within(good, 0, GOODS - 1);
    }

    public int house(int x, int y, int people) {
        if (!within(x, 0, 99) || !within(y, 0, 99) || !within(people, 0, 9)) {
            return NONE;
        }
        return town.addHouse(x, y, people);
    }

    public int store(int house, int good, int n) {
        if (!town.hasHouse(house) || !isGood(good) || !within(n, 0, MOST_STORE)) {
            return NONE;
        }
        int was = town.house[house][good];
        town.house[house][good] = n;
        return was;
    }

    public int need(int house, int good, int much, int harm, int from, int to, boolean hidden) {
        if (!town.hasHouse(house) || !isGood(good) || !within(much, 1, 999)) {
            return NONE;
        }
        if (!within(harm, 0, 999) || !within(from, 0, DAY - 1) || !within(to, from, DAY - 1)) {
            return NONE;
        }
        if (town.needs >= MOST_NEEDS) {
            return NONE;
        }
        int[] row = town.need[town.needs];
        row[HOUSE] = house;
        row[GOOD] = good;
        row[MUCH] = much;
        row[HARM] = harm;
        row[FROM] = from;
        row[TO] = to;
        row[KNOWN] = hidden ? 0 : 1;
        town.needs++;
        return town.needs - 1;
    }

    public int maker(int house, int eats, int much, int makes, int many, int noise) {
        if (!town.hasHouse(house) || !isGood(eats) || !isGood(makes) || eats == makes) {
            return NONE;
        }
        if (!within(much, 0, 999) || !within(many, 1, 999) || !within(noise, 0, 99)) {
            return NONE;
        }
        if (town.makers >= MOST_MAKERS) {
            return NONE;
        }
        int[] row = town.maker[town.makers];
        row[HOUSE] = house;
        row[GOOD] = eats;
        row[MUCH] = much;
        row[MAKES] = makes;
        row[MANY] = many;
        row[NOISE] = noise;
        row[IS_ON] = 0;
        town.makers++;
        return town.makers - 1;
    }

    public boolean on(int maker, boolean is) {
        int as = is ? 1 : 0;
        if (!within(maker, 0, town.makers - 1) || town.maker[maker][IS_ON] == as) {
            return false;
        }
        town.maker[maker][IS_ON] = as;
        return true;
    }

    public int cable(int one, int other, int carry) {
        if (!town.areTwo(one, other) || !within(carry, 1, 9999)) {
            return NONE;
        }
        return town.addCable(one, other, carry);
    }

    public int tie(int of, int to, int n) {
        if (!town.areTwo(of, to) || !within(n, 0, 9)) {
            return NONE;
        }
        int was = town.tie[of][to];
        town.tie[of][to] = n;
        return was;
    }

    public int knock(int house) {
        if (!town.hasHouse(house)) {
            return NONE;
        }
        int become = 0;
        for (int i = 0; i < town.needs; i++) {
            int[] need = town.need[i];
            if (need[HOUSE] == house && need[KNOWN] == 0) {
                need[KNOWN] = 1;
                become++;
            }
        }
        return become;
    }

    public boolean comes(int house, boolean is) {
        int as = is ? 1 : 0;
        if (!town.hasHouse(house) || town.house[house][IS_BACK] == as) {
            return false;
        }
        town.house[house][IS_BACK] = as;
        return true;
    }

    public int say(int quarter) {
        if (!within(quarter, NONE, LAST_END)) {
            return NOTHING;
        }
        int was = town.said;
        town.said = quarter;
        return was;
    }

    public int feed(int a, int b, int c, int d, int e) {
        if (tapeBytes > MOST_BYTES - 20) {
            return NONE;
        }
        addBytes(a);
        addBytes(b);
        addBytes(c);
        addBytes(d);
        addBytes(e);
        return tapeBytes;
    }

    private void addBytes(int number) {
        for (int shift = 24; shift >= 0 && tapeBytes < MOST_BYTES; shift -= 8) {
            tape[tapeBytes] = (number >>> shift) & 255;
            tapeBytes++;
        }
    }

    public int end(int n) {
        if (!within(n, 0, tapeBytes)) {
            return NONE;
        }
        tapeBytes = n;
        return n;
    }

    public int rule() {
        if (ruleCount >= MOST_RULES) {
            return NONE;
        }
        // One that could not be read leaves its room to the next.
        Rule read = rules[ruleCount];
        if (read == null) {
            read = new Rule();
            rules[ruleCount] = read;
        }
        int fault = reader.readRule(read, tape, tapeBytes);
        tapeBytes = 0;
        if (fault != 0) {
            return -2 - fault;
        }
        ruleCount++;
        return ruleCount - 1;
    }

    /** The rule of that number; null if there is none. */
    private Rule ruleOf(int number) {
        return within(number, 0, ruleCount - 1) ? rules[number] : null;
    }

    public long run(int rule, int n) {
        Rule by = ruleOf(rule);
        if (by == null || !within(n, 1, QUARTERS_AHEAD) || town.now + n > LAST_NOW) {
            return NONE;
        }
        return harmOf(town, by, n, BY_RULE);
    }

    /** So many quarters go by in a town: the harm in them. */
    private long harmOf(Town where, Rule by, int n, int kind) {
        long harm = 0;
        for (int i = 0; i < n; i++) {
            harm += quarters.pass(where, by, kind);
        }
        return harm;
    }

    public int of(int house, int what) {
        if (!town.hasHouse(house) || !within(what, 0, Y)) {
            return NONE;
        }
        return town.house[house][what];
    }

    public int needs(int need, int what) {
        if (!within(need, 0, town.needs - 1) || !within(what, 0, 7)) {
            return NONE;
        }
        if (what > KNOWN) {
            return town.isDue(need) ? 1 : 0;
        }
        return town.need[need][what];
    }

    public long harm(int house) {
        return town.hasHouse(house) ? town.harm[house] : NONE;
    }

    public long gave(int one, int other) {
        return town.areTwo(one, other) ? town.gave[one][other] : NONE;
    }

    public int carried(int cable) {
        return within(cable, 0, town.cables - 1) ? town.cable[cable][CARRIED] : NONE;
    }

    public long ahead(int rule, int need) {
        Rule by = ruleOf(rule);
        if (by == null || !within(need, 0, town.needs - 1)) {
            return 0;
        }
        return quarters.firstOf(town, by, need);
    }

    private static boolean isAhead(Rule by, int n, int kind) {
        return by != null && within(n, 0, QUARTERS_AHEAD) && within(kind, BY_RULE, TOGETHER);
    }

    public long total(int rule, int n, int kind) {
        Rule by = ruleOf(rule);
        if (!isAhead(by, n, kind)) {
            return NONE;
        }
        trial.copy(town);
        return harmOf(trial, by, n, kind);
    }

    public long alone(int rule, int n, int kind, int house) {
        Rule by = ruleOf(rule);
        if (!isAhead(by, n, kind) || !town.hasHouse(house)) {
            return NONE;
        }
        trial.copy(town);
        harmOf(trial, by, n, kind);
        return trial.harm[house] - town.harm[house];
    }

    public long lost(int rule, int n) {
        Rule by = ruleOf(rule);
        if (!isAhead(by, n, BY_RULE)) {
            return NO_DIFFERENCE;
        }
        trial.copy(town);
        long ruled = harmOf(trial, by, n, BY_RULE);
        trial.copy(town);
        return ruled - harmOf(trial, by, n, TOGETHER);
    }

    public long helps(int rule, int n, int what) {
        Rule by = ruleOf(rule);
        if (by == null || !within(n, 0, QUARTERS_TO_CHOOSE) || !within(what, 0, 1)) {
            return NONE;
        }
        int best = NOTHING;
        long least = 0;
        for (int h = 0; h < town.houses; h++) {
            if (town.house[h][IS_BACK] == 0) {
                trial.copy(town);
                trial.house[h][IS_BACK] = 1;
                long harm = harmOf(trial, by, n, BY_RULE);
                if (best == NOTHING || harm < least) {
                    best = h;
                    least = harm;
                }
            }
        }
        return best == NOTHING || what == 0 ? best : least;
    }

    public int missed() {
        int missed = 0;
        for (int i = 0; i < town.needs; i++) {
            int[] need = town.need[i];
            boolean lacks = town.house[need[HOUSE]][need[GOOD]] < need[MUCH];
            if (need[KNOWN] == 0 && lacks && town.isDue(i)) {
                missed++;
            }
        }
        return missed;
    }

    public int cook(int rule, int house, int n) {
        Rule by = ruleOf(rule);
        if (by == null || !town.hasHouse(house) || !within(n, 1, MOST_STORE)) {
            return NONE;
        }
        trial.copy(town);
        for (int gone = 0; gone <= QUARTERS_TO_COOK; gone++) {
            if (trial.house[house][COLD] < n) {
                return gone;
            }
            quarters.spoil(trial, by, house);
            trial.now++;
        }
        return NOTHING;
    }

    public int item(int house, int good, int n, int price) {
        if (!town.hasHouse(house) || !isGood(good) || !within(n, 1, MOST_STORE)) {
            return NONE;
        }
        if (!within(price, 0, 9999) || town.items >= MOST_ITEMS) {
            return NONE;
        }
        int[] row = town.item[town.items];
        row[HOUSE] = house;
        row[GOOD] = good;
        row[MUCH] = n;
        row[PRICE] = price;
        town.items++;
        return town.items;
    }

    public long common(int rule, int coins, int n, int what) {
        Rule by = ruleOf(rule);
        if (by == null || !within(coins, 0, 99999) || !within(n, 0, QUARTERS_TO_CHOOSE)) {
            return NONE;
        }
        if (!within(what, 0, 1)) {
            return NONE;
        }
        int best = NONE;
        int bestPrice = 0;
        long least = 0;
        for (int set = 0; set < 1 << town.items; set++) {
            int price = town.priceOf(set);
            if (price <= coins) {
                trial.copy(town);
                trial.addItems(set);
                long harm = harmOf(trial, by, n, BY_RULE);
                if (best == NONE || harm < least || harm == least && price < bestPrice) {
                    best = set;
                    bestPrice = price;
                    least = harm;
                }
            }
        }
        return what == 0 ? best : least;
    }

    public int ends(int quarter, int weight) {
        if (!within(quarter, 0, LAST_END) || !within(weight, 1, 999)) {
            return NONE;
        }
        if (town.ends >= MOST_ENDS) {
            return NONE;
        }
        town.end[town.ends][QUARTER] = quarter;
        town.end[town.ends][WEIGHT] = weight;
        town.ends++;
        return town.ends;
    }

    public long should(int rule, int what) {
        Rule by = ruleOf(rule);
        if (by == null || !within(what, 0, 1)) {
            return NONE;
        }
        int best = NOTHING;
        long least = 0;
        for (int i = 0; i < town.ends; i++) {
            int quarter = town.end[i][QUARTER];
            long sum = sumIfSaid(by, quarter);
            if (best == NOTHING || sum < least || sum == least && quarter < best) {
                best = quarter;
                least = sum;
            }
        }
        return best == NOTHING || what == 0 ? best : least;
    }

    /** The weighed harm up to all ends that are near enough, were that quarter said now. */
    private long sumIfSaid(Rule by, int quarter) {
        trial.copy(town);
        trial.said = quarter;
        int gone = town.lastEndWithin(QUARTERS_AHEAD);
        long harm = 0;
        long sum = 0;
        for (int i = 1; i <= gone; i++) {
            harm += quarters.pass(trial, by, BY_RULE);
            sum += harm * town.weightOfEnds(town.now + i);
        }
        return sum;
    }

    public int reach(int set) {
        return town.isSet(set) ? walks.reachOf(town, set) : NONE;
    }

    public int odds(int house, int n) {
        if (!town.hasHouse(house) || !within(n, 0, 1000)) {
            return NONE;
        }
        int were = town.house[house][ODDS];
        town.house[house][ODDS] = n;
        return were;
    }

    public int doors(int from, int set, int k) {
        if (!town.hasHouse(from) || !town.isSet(set) || (set >> from & 1) == 1) {
            return NONE;
        }
        int many = Integer.bitCount(set);
        if (many > MOST_DOORS || !within(k, NONE, many - 1)) {
            return NONE;
        }
        int least = walks.walkDoors(town, from, set);
        return k == NONE ? least : walks.doorAt(k);
    }

    public boolean turner(int k, int lasts, int left, int harm) {
        if (!within(k, 0, MOST_TURNERS - 1) || !within(lasts, 1, 20)) {
            return false;
        }
        if (!within(left, 0, 20) || !within(harm, 0, 999)) {
            return false;
        }
        town.turner[k][LASTS] = lasts;
        town.turner[k][LEFT] = left;
        town.turner[k][PAINS] = harm;
        return true;
    }

    public int rows(int n, int k) {
        if (!within(n, 1, MOST_TURNS) || !within(k, NONE, n - 1)) {
            return NONE;
        }
        if (!town.hasTurners()) {
            return NOTHING;
        }
        int least = turns.leastHarm(town, n);
        return k == NONE ? least : turns.turnAt(k);
    }

    public long owes(int one, int other) {
        if (!town.areTwo(one, other)) {
            return NO_DIFFERENCE;
        }
        return town.gave[other][one] - town.gave[one][other];
    }

    public int debtor() {
        int debtor = NOTHING;
        long most = 0;
        for (int h = 0; h < town.houses; h++) {
            long more = town.gotMore(h);
            if (debtor == NOTHING || more > most) {
                debtor = h;
                most = more;
            }
        }
        return debtor;
    }

    public int noise(int house) {
        if (!town.hasHouse(house)) {
            return NONE;
        }
        int noise = 0;
        for (int m = 0; m < town.makers; m++) {
            if (town.maker[m][IS_ON] == 1) {
                noise += town.noiseAt(m, house);
            }
        }
        return noise;
    }

    public int loud() {
        int loud = NOTHING;
        int most = 0;
        for (int m = 0; m < town.makers; m++) {
            int noise = 0;
            for (int h = 0; h < town.houses; h++) {
                noise += town.noiseAt(m, h);
            }
            if (loud == NOTHING || noise > most) {
                loud = m;
                most = noise;
            }
        }
        return loud;
    }

    public int knows(int house, int what) {
        if (!town.hasHouse(house) || !within(what, 0, 1)) {
            return NONE;
        }
        int steps = hearsay.spread(town, house);
        return what == 0 ? steps : hearsay.countHearing();
    }

    public int parts(int what) {
        if (!within(what, 0, 1)) {
            return NONE;
        }
        if (what == 0) {
            return hearsay.groupsWithout(town, NONE);
        }
        int bridge = NOTHING;
        int most = 0;
        for (int h = 0; h < town.houses; h++) {
            int groups = hearsay.groupsWithout(town, h);
            if (bridge == NOTHING || groups > most) {
                bridge = h;
                most = groups;
            }
        }
        return bridge;
    }

    public int count(int what) {
        switch (what) {
            case 0: return town.now;
            case 1: return town.houses;
            case 2: return town.needs;
            case 3: return town.makers;
            case 4: return town.cables;
            case 5: return ruleCount;
            case 6: return town.items;
            case 7: return town.ends;
            case 8: return town.tillEnd();
            case 9: return town.hourNow();
            case 10: return tapeBytes;
            default: return NONE;
        }
    }

    public int image(int k) {
        if (!within(k, 0, MOST_IMAGES - 1)) {
            return NONE;
        }
        Town made = images[k];
        if (made == null) {
            made = new Town();
            images[k] = made;
        }
        made.copy(town);
        return town.now;
    }

    public int back(int k) {
        if (!within(k, 0, MOST_IMAGES - 1)) {
            return NONE;
        }
        Town made = images[k];
        if (made == null) {
            return NONE;
        }
        town.copy(made);
        return town.now;
    }

    /** All that was told and has happened, but for the rules and the tape: what an image keeps. */
    private static final class Town {
        int now;
        int said = NONE;
        int houses;
        int needs;
        int makers;
        int cables;
        int items;
        int ends;
        final int[][] house = new int[MOST_HOUSES][ODDS + 1];
        /** Of each house the others, in the order in which they are asked to give. */
        final int[][] near = new int[MOST_HOUSES][MOST_HOUSES];
        final int[][] need = new int[MOST_NEEDS][KNOWN + 1];
        final int[][] maker = new int[MOST_MAKERS][IS_ON + 1];
        final int[][] cable = new int[MOST_CABLES][CARRIED + 1];
        /** Of each two houses the number of their cable and one more; 0 where there is none. */
        final int[][] wire = new int[MOST_HOUSES][MOST_HOUSES];
        final int[][] tie = new int[MOST_HOUSES][MOST_HOUSES];
        final int[][] item = new int[MOST_ITEMS][PRICE + 1];
        final int[][] end = new int[MOST_ENDS][WEIGHT + 1];
        final int[][] turner = new int[MOST_TURNERS][PAINS + 1];
        final long[][] gave = new long[MOST_HOUSES][MOST_HOUSES];
        final long[] harm = new long[MOST_HOUSES];

        void copy(Town from) {
            now = from.now;
            said = from.said;
            houses = from.houses;
            needs = from.needs;
            makers = from.makers;
            cables = from.cables;
            items = from.items;
            ends = from.ends;
            copyRows(from.house, house);
            copyRows(from.near, near);
            copyRows(from.need, need);
            copyRows(from.maker, maker);
            copyRows(from.cable, cable);
            copyRows(from.wire, wire);
            copyRows(from.tie, tie);
            copyRows(from.item, item);
            copyRows(from.end, end);
            copyRows(from.turner, turner);
            for (int h = 0; h < MOST_HOUSES; h++) {
                System.arraycopy(from.gave[h], 0, gave[h], 0, MOST_HOUSES);
            }
            System.arraycopy(from.harm, 0, harm, 0, MOST_HOUSES);
        }

        private static void copyRows(int[][] from, int[][] to) {
            for (int i = 0; i < from.length && i < to.length; i++) {
                System.arraycopy(from[i], 0, to[i], 0, Math.min(from[i].length, to[i].length));
            }
        }

        boolean hasHouse(int number) {
            return number >= 0 && number < houses;
        }

        boolean areTwo(int one, int other) {
            return hasHouse(one) && hasHouse(other) && one != other;
        }

        /** Whether a number is a set of houses that there are. */
        boolean isSet(int set) {
            return set >= 0 && set < 1 << houses;
        }

        int addHouse(int x, int y, int people) {
            if (houses >= MOST_HOUSES) {
                return NONE;
            }
            int[] row = house[houses];
            row[X] = x;
            row[Y] = y;
            row[PEOPLE] = people;
            houses++;
            for (int h = 0; h < houses; h++) {
                sortOthers(h);
            }
            return houses - 1;
        }

        private void sortOthers(int of) {
            int[] row = near[of];
            int many = 0;
            for (int h = 0; h < houses; h++) {
                if (h != of) {
                    int place = many;
                    // Only farther ones step back, so that of several the least stays ahead.
                    for (; place > 0 && far(of, row[place - 1]) > far(of, h); place--) {
                        row[place] = row[place - 1];
                    }
                    row[place] = h;
                    many++;
                }
            }
        }

        int addCable(int one, int other, int carry) {
            if (cables >= MOST_CABLES || wire[one][other] != 0) {
                return NONE;
            }
            cable[cables][CARRY] = carry;
            cables++;
            wire[one][other] = cables;
            wire[other][one] = cables;
            return cables - 1;
        }

        int far(int one, int other) {
            int[] a = house[one];
            int[] b = house[other];
            return Math.abs(a[X] - b[X]) + Math.abs(a[Y] - b[Y]);
        }

        int hourNow() {
            return now % DAY / 4;
        }

        int tillEnd() {
            if (said == NONE) {
                return UNTIL_UNSAID;
            }
            return said > now ? said - now : 0;
        }

        boolean isDue(int number) {
            int time = now % DAY;
            return need[number][FROM] <= time && time <= need[number][TO];
        }

        int noiseAt(int number, int at) {
            return Math.max(0, maker[number][NOISE] - far(maker[number][HOUSE], at));
        }

        /** What a house got more than it gave. */
        long gotMore(int number) {
            long more = 0;
            for (int h = 0; h < houses; h++) {
                more += gave[h][number] - gave[number][h];
            }
            return more;
        }

        int priceOf(int set) {
            int price = 0;
            for (int i = 0; i < items; i++) {
                if ((set >> i & 1) == 1) {
                    price += item[i][PRICE];
                }
            }
            return price;
        }

        void addItems(int set) {
            for (int i = 0; i < items; i++) {
                if ((set >> i & 1) == 1) {
                    int[] row = house[item[i][HOUSE]];
                    int good = item[i][GOOD];
                    row[good] = Math.min(MOST_STORE, row[good] + item[i][MUCH]);
                }
            }
        }

        /** How far off the last end is that is not farther off than told; 0 if none is to come. */
        int lastEndWithin(int most) {
            int last = 0;
            for (int i = 0; i < ends; i++) {
                int off = end[i][QUARTER] - now;
                if (off <= most) {
                    last = Math.max(last, off);
                }
            }
            return last;
        }

        long weightOfEnds(int quarter) {
            long weight = 0;
            for (int i = 0; i < ends; i++) {
                if (end[i][QUARTER] == quarter) {
                    weight += end[i][WEIGHT];
                }
            }
            return weight;
        }

        boolean hasTurners() {
            boolean has = false;
            for (int i = 0; i < MOST_TURNERS; i++) {
                has = has || turner[i][LASTS] > 0;
            }
            return has;
        }

        boolean hears(int one, int other) {
            return tie[one][other] > 0 || tie[other][one] > 0;
        }
    }

    /**
     * A rule as it was read: its clauses, of each the code of its sum and, behind that, the code
     * of its test. The code works on a stack: a value is put on it, a sign takes its two from it.
     */
    private static final class Rule {
        // The words: first those that are values, then those that are not.
        static final int QUARTER_WORD = 0;
        static final int HOUR_WORD = 1;
        static final int UNTIL_WORD = 2;
        static final int PEOPLE_WORD = 3;
        static final int HOUSE_WORD = 4;
        static final int COLD_WORD = 5;
        static final int GOOD_WORD = 6;
        static final int HARM_WORD = 7;
        static final int LACK_WORD = 8;
        static final int OWN_WORD = 9;
        static final int STORE_WORD = 10;
        static final int TIE_WORD = 11;
        static final int GIVEN_WORD = 12;
        static final int GOT_WORD = 13;
        static final int FAR_WORD = 14;
        static final int VALUE_WORDS = 15;
        static final int SPOIL = 15;
        static final int FIRST = 16;
        static final int GIVE = 17;
        static final int HOLD = 18;
        static final int IF = 19;
        static final int AND = 20;
        static final int OR = 21;
        static final int NOT = 22;
        static final String WORDS =
                "quarter hour until people house cold good harm lack own store tie given got far spoil first give hold if and or not ";

        static final int AT_MOST = 23;
        static final int AT_LEAST = 24;
        /** A sign of one byte is that byte and this many more. */
        static final int SIGNS = 100;
        static final int PLUS = SIGNS + '+';
        static final int MINUS = SIGNS + '-';
        static final int TIMES = SIGNS + '*';
        static final int BY = SIGNS + '/';
        static final int LESS = SIGNS + '<';
        static final int EQUAL = SIGNS + '=';
        static final int MORE = SIGNS + '>';
        /** A number is itself and this many more. */
        static final int NUMBERS = 1000;

        static final int MOST_CLAUSES = 12;
        /** Eleven tests within one another leave two values each, a fact four: 26 is the most. */
        private static final int STACK = 32;

        int hold;
        private int clauses;
        private int length;
        private final int[] sort = new int[MOST_CLAUSES];
        private final int[] sumAt = new int[MOST_CLAUSES];
        private final int[] testAt = new int[MOST_CLAUSES];
        private final int[] endAt = new int[MOST_CLAUSES];
        // Each piece of code comes from a byte of its own at least.
        private final int[] code = new int[MOST_BYTES];
        private final long[] stack = new long[STACK];

        void clear() {
            hold = 0;
            clauses = 0;
            length = 0;
        }

        /** A clause begins: what is put now is its sum. */
        void openClause(int sortOfIt) {
            if (clauses < MOST_CLAUSES) {
                sort[clauses] = sortOfIt;
                sumAt[clauses] = length;
                clauses++;
            }
        }

        /** The sum is whole: what is put now is the test. */
        void openTest() {
            if (clauses > 0) {
                testAt[clauses - 1] = length;
            }
        }

        void closeClause() {
            if (clauses > 0) {
                endAt[clauses - 1] = length;
            }
        }

        void put(int piece) {
            if (length < code.length) {
                code[length] = piece;
                length++;
            }
        }

        /** The sum of the first clause of that sort that has no test, or whose test holds. */
        long sumOf(int sortAsked, long[] words) {
            for (int c = 0; c < clauses; c++) {
                if (sort[c] == sortAsked) {
                    boolean free = testAt[c] == endAt[c];
                    if (free || worth(testAt[c], endAt[c], words) != 0) {
                        return worth(sumAt[c], testAt[c], words);
                    }
                }
            }
            return 0;
        }

        private long worth(int from, int to, long[] words) {
            int top = 0;
            for (int i = from; i < to && i < code.length; i++) {
                int piece = code[i];
                if (piece >= NUMBERS && top < STACK) {
                    stack[top] = piece - NUMBERS;
                    top++;
                } else if (piece >= 0 && piece < words.length && top < STACK) {
                    stack[top] = words[piece];
                    top++;
                } else if (piece == NOT && top > 0) {
                    stack[top - 1] = 1 - stack[top - 1];
                } else if (top > 1) {
                    top--;
                    stack[top - 1] = join(piece, stack[top - 1], stack[top]);
                }
            }
            return top > 0 ? stack[top - 1] : 0;
        }

        private static long join(int sign, long a, long b) {
            switch (sign) {
                case PLUS: return a + b;
                case MINUS: return a - b;
                case TIMES: return a * b;
                case BY: return b == 0 ? 0 : a / b;
                case LESS: return a < b ? 1 : 0;
                case AT_MOST: return a <= b ? 1 : 0;
                case EQUAL: return a == b ? 1 : 0;
                case AT_LEAST: return a >= b ? 1 : 0;
                case MORE: return a > b ? 1 : 0;
                case AND: return a & b;
                case OR: return a | b;
                default: return 0;
            }
        }
    }

    /** Reads a text as a rule, token by token; it stops at the first fault along the text. */
    private static final class Reader {
        private static final int OTHER_WORD = 30;
        private static final int NUMBER = 31;
        private static final int TEXT_END = 32;
        private static final int OPENS = Rule.SIGNS + '[';
        private static final int CLOSES = Rule.SIGNS + ']';
        private static final int NEXT_CLAUSE = Rule.SIGNS + ';';

        private static final int CANNOT_STAND = 0;
        private static final int BAD_NUMBER = 1;
        private static final int TOO_DEEP = 2;
        private static final int TOO_MANY = 3;
        private static final int ONE_CLAUSE_MORE = 4;

        private static final int MOST_DIGITS = 5;
        private static final int MOST_HOLD = 9999;
        private static final int DEEPEST = 10;
        private static final int MOST_COUNTED = 60;

        private int[] text = new int[0];
        private int length;
        /** Behind the token. */
        private int at;
        private int token;
        /** The token's first byte. */
        private int place;
        /** What the token says if it is a number; NONE if it has too many digits. */
        private int number;
        private int counted;
        private int fault;
        private Rule rule = new Rule();

        /** Reads the first bytes of a text into a rule: its fault, 0 without. */
        int readRule(Rule into, int[] bytes, int many) {
            text = bytes;
            length = Math.min(many, bytes.length);
            at = 0;
            counted = 0;
            fault = 0;
            rule = into;
            rule.clear();
            boolean held = false;
            boolean more = true;
            next();
            for (int read = 0; more && read <= Rule.MOST_CLAUSES; read++) {
                boolean holds = token == Rule.HOLD;
                if (token < Rule.SPOIL || token > Rule.HOLD) {
                    refuse(CANNOT_STAND);
                } else if (read == Rule.MOST_CLAUSES || holds && held) {
                    refuse(ONE_CLAUSE_MORE);
                } else if (holds) {
                    readHold();
                } else {
                    readClause();
                }
                held = held || holds;
                more = fault == 0 && goesOn();
            }
            return fault;
        }

        /** Behind a clause: whether another one is told to come. */
        private boolean goesOn() {
            if (token == NEXT_CLAUSE) {
                next();
                return true;
            }
            return token != TEXT_END && refuse(CANNOT_STAND);
        }

        /** There is a fault at the token; always false, as what is read is not as it should be. */
        private boolean refuse(int kind) {
            fault = 1 + 8 * place + kind;
            return false;
        }

        private void readHold() {
            next();
            if (token != NUMBER) {
                refuse(CANNOT_STAND);
            } else if (number == NONE || number > MOST_HOLD) {
                refuse(BAD_NUMBER);
            } else {
                rule.hold = number;
                next();
            }
        }

        private void readClause() {
            rule.openClause(token);
            next();
            if (!readSum()) {
                return;
            }
            rule.openTest();
            if (token == Rule.IF) {
                next();
                if (!readTest(0)) {
                    return;
                }
            }
            rule.closeClause();
        }

        private boolean readTest(int depth) {
            if (!readFact(depth)) {
                return false;
            }
            boolean or = false;
            for (int i = 0; i < length && (token == Rule.AND || token == Rule.OR); i++) {
                int word = token;
                // A part is whole only where the next or comes: then it joins those before.
                if (word == Rule.OR && or) {
                    rule.put(Rule.OR);
                }
                or = or || word == Rule.OR;
                next();
                if (!readFact(depth)) {
                    return false;
                }
                if (word == Rule.AND) {
                    rule.put(Rule.AND);
                }
            }
            if (or) {
                rule.put(Rule.OR);
            }
            return true;
        }

        private boolean readFact(int depth) {
            int deep = depth;
            for (; token == Rule.NOT && deep < DEEPEST; deep++) {
                next();
            }
            if (deep >= DEEPEST && (token == Rule.NOT || token == OPENS)) {
                return refuse(TOO_DEEP);
            }
            if (token == OPENS) {
                next();
                if (!readTest(deep + 1)) {
                    return false;
                }
                if (token != CLOSES) {
                    return refuse(CANNOT_STAND);
                }
                next();
            } else {
                if (!readSum()) {
                    return false;
                }
                int sign = token;
                if (!compares(sign)) {
                    return refuse(CANNOT_STAND);
                }
                if (counted >= MOST_COUNTED) {
                    return refuse(TOO_MANY);
                }
                counted++;
                next();
                if (!readSum()) {
                    return false;
                }
                rule.put(sign);
            }
            if ((deep - depth) % 2 == 1) {
                rule.put(Rule.NOT);
            }
            return true;
        }

        private static boolean compares(int token) {
            return token == Rule.LESS || token == Rule.EQUAL || token == Rule.MORE
                    || token == Rule.AT_MOST || token == Rule.AT_LEAST;
        }

        private boolean readSum() {
            int sign = 0;
            int waiting = 0;
            boolean more = true;
            for (int i = 0; more && i <= length; i++) {
                int kind = faultOfValue();
                if (kind != NONE) {
                    return refuse(kind);
                }
                counted++;
                rule.put(token == NUMBER ? Rule.NUMBERS + number : token);
                next();
                if (sign == Rule.TIMES || sign == Rule.BY) {
                    rule.put(sign);
                }
                sign = token;
                boolean adds = sign == Rule.PLUS || sign == Rule.MINUS;
                more = adds || sign == Rule.TIMES || sign == Rule.BY;
                // A term is whole only where the next one comes, or the end of the sum.
                if (waiting != 0 && (adds || !more)) {
                    rule.put(waiting);
                }
                waiting = adds ? sign : waiting;
                if (more) {
                    next();
                }
            }
            return true;
        }

        /** What is wrong with the token where a value should be; NONE if it is one. */
        private int faultOfValue() {
            if (token != NUMBER && token >= Rule.VALUE_WORDS) {
                return CANNOT_STAND;
            }
            if (token == NUMBER && number == NONE) {
                return BAD_NUMBER;
            }
            return counted >= MOST_COUNTED ? TOO_MANY : NONE;
        }

        /** Goes on to the next token of the text. */
        private void next() {
            while (at < length && text[at] == ' ') {
                at++;
            }
            place = at;
            if (at >= length) {
                token = TEXT_END;
            } else if (isLetter(text[at])) {
                while (at < length && isLetter(text[at])) {
                    at++;
                }
                token = wordFrom(place, at);
            } else if (isDigit(text[at])) {
                token = NUMBER;
                number = 0;
                for (; at < length && isDigit(text[at]); at++) {
                    if (at - place < MOST_DIGITS) {
                        number = 10 * number + text[at] - '0';
                    }
                }
                number = at - place > MOST_DIGITS ? NONE : number;
            } else {
                token = Rule.SIGNS + text[at];
                at++;
                if (at < length && text[at] == '=' && (token == Rule.LESS || token == Rule.MORE)) {
                    token = token == Rule.LESS ? Rule.AT_MOST : Rule.AT_LEAST;
                    at++;
                }
            }
        }

        private int wordFrom(int from, int to) {
            int word = 0;
            int same = from;
            boolean alike = true;
            for (int i = 0; i < Rule.WORDS.length(); i++) {
                char sign = Rule.WORDS.charAt(i);
                if (sign == ' ') {
                    if (alike && same == to) {
                        return word;
                    }
                    word++;
                    same = from;
                    alike = true;
                } else if (alike && same < to && text[same] == sign) {
                    same++;
                } else {
                    alike = false;
                }
            }
            return OTHER_WORD;
        }

        private static boolean isLetter(int sign) {
            return sign >= 'a' && sign <= 'z';
        }

        private static boolean isDigit(int sign) {
            return sign >= '0' && sign <= '9';
        }
    }

    /** Lets quarters go by in a town. */
    private static final class Quarters {
        /** What each word that is a value says in the place where a sum is asked. */
        private final long[] words = new long[Rule.VALUE_WORDS];
        private final long[] firsts = new long[MOST_NEEDS];
        /** The needs that are due, in the order in which they are served. */
        private final int[] line = new int[MOST_NEEDS];

        /** A quarter goes by: the harm in it. */
        long pass(Town town, Rule rule, int kind) {
            bringCurrent(town);
            makeAll(town);
            for (int h = 0; h < town.houses; h++) {
                spoil(town, rule, h);
            }
            for (int c = 0; c < town.cables; c++) {
                town.cable[c][CARRIED] = 0;
            }
            int due = lineUp(town, rule);
            long harm = 0;
            for (int i = 0; i < due; i++) {
                harm += serve(town, rule, kind, town.need[line[i]]);
            }
            town.now++;
            return harm;
        }

        private void bringCurrent(Town town) {
            for (int h = 0; h < town.houses; h++) {
                int[] row = town.house[h];
                if (row[IS_BACK] == 1) {
                    row[CURRENT] = Math.max(row[CURRENT], CURRENT_OF_BACK);
                }
            }
        }

        private void makeAll(Town town) {
            for (int m = 0; m < town.makers; m++) {
                int[] maker = town.maker[m];
                int[] row = town.house[maker[HOUSE]];
                if (maker[IS_ON] == 1 && row[maker[GOOD]] >= maker[MUCH]) {
                    row[maker[GOOD]] -= maker[MUCH];
                    row[maker[MAKES]] = Math.min(MOST_STORE, row[maker[MAKES]] + maker[MANY]);
                }
            }
        }

        void spoil(Town town, Rule rule, int house) {
            tellHouse(town, house);
            int[] row = town.house[house];
            long less = rule.sumOf(Rule.SPOIL, words);
            row[COLD] -= (int) Math.min(row[COLD], Math.max(0, less));
        }

        long firstOf(Town town, Rule rule, int need) {
            tellNeed(town, town.need[need]);
            return rule.sumOf(Rule.FIRST, words);
        }

        /** Puts the needs that are due in line: how many they are. */
        private int lineUp(Town town, Rule rule) {
            int due = 0;
            for (int n = 0; n < town.needs; n++) {
                if (town.isDue(n)) {
                    firsts[n] = firstOf(town, rule, n);
                    int place = due;
                    // Only lesser ones step back: those alike stay by their numbers.
                    for (; place > 0 && firsts[line[place - 1]] < firsts[n]; place--) {
                        line[place] = line[place - 1];
                    }
                    line[place] = n;
                    due++;
                }
            }
            return due;
        }

        /** A need has what it can have: the harm of what is lacking then. */
        private long serve(Town town, Rule rule, int kind, int[] need) {
            int house = need[HOUSE];
            int[] row = town.house[house];
            int own = Math.min(need[MUCH], row[need[GOOD]]);
            row[need[GOOD]] -= own;
            int lack = need[MUCH] - own;
            boolean asks = kind != ALONE && (kind == TOGETHER || need[KNOWN] == 1);
            if (asks && lack > 0) {
                tellNeed(town, need);
                for (int i = 0; i < town.houses - 1 && lack > 0; i++) {
                    int giver = town.near[house][i];
                    lack -= kind == TOGETHER ? takeAll(town, need, giver, lack)
                            : take(town, rule, need, giver, lack);
                }
            }
            long harm = (long) lack * need[HARM];
            town.harm[house] += harm;
            return harm;
        }

        private int takeAll(Town town, int[] need, int giver, int lack) {
            int[] row = town.house[giver];
            int gift = Math.min(lack, row[need[GOOD]]);
            row[need[GOOD]] -= gift;
            return gift;
        }

        /** What another house gives by the rule; the words of the need are told already. */
        private int take(Town town, Rule rule, int[] need, int giver, int lack) {
            int house = need[HOUSE];
            int good = need[GOOD];
            int wire = town.wire[giver][house] - 1;
            boolean current = good == CURRENT;
            if (current ? wire < 0 : town.tie[giver][house] == 0) {
                return 0;
            }
            int most = Math.min(lack, town.house[giver][good] - rule.hold);
            if (current) {
                most = Math.min(most, town.cable[wire][CARRY] - town.cable[wire][CARRIED]);
            }
            if (most <= 0) {
                return 0;
            }
            words[Rule.LACK_WORD] = lack;
            tellGiver(town, giver, house, good);
            long told = Math.max(0, rule.sumOf(Rule.GIVE, words));
            int gift = (int) Math.min(most, told);
            town.house[giver][good] -= gift;
            town.gave[giver][house] += gift;
            if (current) {
                town.cable[wire][CARRIED] += gift;
            }
            return gift;
        }

        /** Of a house alone: all words of a need and of one who gives are 0. */
        private void tellHouse(Town town, int house) {
            words[Rule.QUARTER_WORD] = town.now;
            words[Rule.HOUR_WORD] = town.hourNow();
            words[Rule.UNTIL_WORD] = town.tillEnd();
            words[Rule.PEOPLE_WORD] = town.house[house][PEOPLE];
            words[Rule.HOUSE_WORD] = house;
            words[Rule.COLD_WORD] = town.house[house][COLD];
            for (int word = Rule.GOOD_WORD; word < Rule.VALUE_WORDS; word++) {
                words[word] = 0;
            }
        }

        private void tellNeed(Town town, int[] need) {
            tellHouse(town, need[HOUSE]);
            words[Rule.GOOD_WORD] = need[GOOD];
            words[Rule.HARM_WORD] = need[HARM];
            words[Rule.LACK_WORD] = need[MUCH];
            words[Rule.OWN_WORD] = town.house[need[HOUSE]][need[GOOD]];
        }

        private void tellGiver(Town town, int giver, int house, int good) {
            words[Rule.STORE_WORD] = town.house[giver][good];
            words[Rule.TIE_WORD] = town.tie[giver][house];
            words[Rule.GIVEN_WORD] = town.gave[giver][house];
            words[Rule.GOT_WORD] = town.gave[house][giver];
            words[Rule.FAR_WORD] = town.far(giver, house);
        }
    }

    /** Lines from house to house, and the order of doors. */
    private static final class Walks {
        private static final int FARTHER_THAN_ALL = 1000;

        /** How far a house is from those that hang together already. */
        private final int[] off = new int[MOST_HOUSES];
        private final int[] order = new int[MOST_DOORS];
        private final int[] best = new int[MOST_DOORS];

        /** The least length of lines that holds a set of houses together. */
        int reachOf(Town town, int set) {
            if (Integer.bitCount(set) < 2) {
                return 0;
            }
            int least = lengthOf(town, set);
            // Which others help is not known beforehand: all sets that hold the told one are tried.
            for (int wider = set + 1; wider < 1 << town.houses; wider++) {
                if ((wider & set) == set) {
                    least = Math.min(least, lengthOf(town, wider));
                }
            }
            return least;
        }

        /** The least length of lines between the houses of a set, by way of no others. */
        private int lengthOf(Town town, int set) {
            // It begins at the least house of the set; which one it is makes no difference.
            int left = set & set - 1;
            int last = Integer.bitCount((set & -set) - 1);
            for (int h = 0; h < town.houses; h++) {
                off[h] = FARTHER_THAN_ALL;
            }
            int length = 0;
            for (int i = 0; i < MOST_HOUSES && left != 0; i++) {
                int next = NONE;
                for (int h = 0; h < town.houses; h++) {
                    if ((left >> h & 1) == 1) {
                        off[h] = Math.min(off[h], town.far(last, h));
                        next = next == NONE || off[h] < off[next] ? h : next;
                    }
                }
                if (next == NONE) {
                    return length;
                }
                length += off[next];
                left -= 1 << next;
                last = next;
            }
            return length;
        }

        /** Finds the best order of doors: its sum. */
        int walkDoors(Town town, int from, int set) {
            int many = 0;
            for (int h = 0; h < town.houses && many < MOST_DOORS; h++) {
                if ((set >> h & 1) == 1) {
                    order[many] = h;
                    many++;
                }
            }
            int least = sumOfOrder(town, from, many);
            System.arraycopy(order, 0, best, 0, many);
            // Six doors have 720 orders; the lesser house comes first, so only less is better.
            for (int i = 0; i < 720 && nextOrder(many); i++) {
                int sum = sumOfOrder(town, from, many);
                if (sum < least) {
                    least = sum;
                    System.arraycopy(order, 0, best, 0, many);
                }
            }
            return least;
        }

        int doorAt(int k) {
            return k >= 0 && k < best.length ? best[k] : NONE;
        }

        private int sumOfOrder(Town town, int from, int many) {
            int sum = 0;
            int walked = 0;
            int at = from;
            for (int i = 0; i < many; i++) {
                walked += town.far(at, order[i]);
                at = order[i];
                sum += walked * town.house[at][ODDS];
            }
            return sum;
        }

        /** Makes the order that comes next by its houses' numbers; false if it was the last. */
        private boolean nextOrder(int many) {
            int part = many - 2;
            while (part >= 0 && order[part] > order[part + 1]) {
                part--;
            }
            if (part < 0) {
                return false;
            }
            int other = many - 1;
            while (other > part && order[other] < order[part]) {
                other--;
            }
            swap(part, other);
            for (int i = part + 1, k = many - 1; i < k; i++, k--) {
                swap(i, k);
            }
            return true;
        }

        private void swap(int i, int k) {
            int was = order[i];
            order[i] = order[k];
            order[k] = was;
        }
    }

    /** Who has the turn at a maker. */
    private static final class Turns {
        private static final int MORE_THAN_ALL_HARM = 1000000;

        /** What is left of each turner, and the harm together, before each turn of the row. */
        private final int[][] left = new int[MOST_TURNS + 1][MOST_TURNERS];
        private final int[] harm = new int[MOST_TURNS + 1];
        private final int[] row = new int[MOST_TURNS];
        private final int[] best = new int[MOST_TURNS];

        /** Finds the best row of n turns: its harm. Rows are tried by their turners' numbers. */
        int leastHarm(Town town, int n) {
            int least = MORE_THAN_ALL_HARM;
            for (int t = 0; t < MOST_TURNERS; t++) {
                left[0][t] = town.turner[t][LEFT];
            }
            int turn = 0;
            row[0] = NONE;
            for (int step = 0; step < 1000000 && turn >= 0; step++) {
                row[turn]++;
                int who = row[turn];
                if (who >= MOST_TURNERS) {
                    turn--;
                } else if (town.turner[who][LASTS] > 0 && harmAfter(town, turn, who) < least) {
                    if (turn + 1 < n) {
                        turn++;
                        row[turn] = NONE;
                    } else {
                        least = harm[turn + 1];
                        System.arraycopy(row, 0, best, 0, n);
                    }
                }
            }
            return least;
        }

        int turnAt(int k) {
            return k >= 0 && k < best.length ? best[k] : NONE;
        }

        /** A turner has a turn: the harm of the row up to it. */
        private int harmAfter(Town town, int turn, int who) {
            int sum = harm[turn];
            for (int t = 0; t < MOST_TURNERS; t++) {
                int[] turner = town.turner[t];
                left[turn + 1][t] = t == who ? turner[LASTS] : Math.max(0, left[turn][t] - 1);
                if (turner[LASTS] > 0 && t != who && left[turn + 1][t] == 0) {
                    sum += turner[PAINS];
                }
            }
            harm[turn + 1] = sum;
            return sum;
        }
    }

    /** Who hears of what one says. */
    private static final class Hearsay {
        /** The houses that hear, in the order in which they do, and the steps to each. */
        private final int[] line = new int[MOST_HOUSES];
        private final int[] steps = new int[MOST_HOUSES];
        private final boolean[] told = new boolean[MOST_HOUSES];
        private int hearing;

        /** A house says something: the steps to the farthest that hears. */
        int spread(Town town, int house) {
            for (int h = 0; h < MOST_HOUSES; h++) {
                told[h] = false;
            }
            return spreadOn(town, house);
        }

        /** How many others heard of it. */
        int countHearing() {
            return hearing - 1;
        }

        /** How many groups there are, one house (or none) being away. */
        int groupsWithout(Town town, int away) {
            for (int h = 0; h < MOST_HOUSES; h++) {
                told[h] = h == away;
            }
            int groups = 0;
            for (int h = 0; h < town.houses; h++) {
                if (!told[h]) {
                    spreadOn(town, h);
                    groups++;
                }
            }
            return groups;
        }

        /** Tells all that hear of a house and are not told already. */
        private int spreadOn(Town town, int house) {
            line[0] = house;
            steps[0] = 0;
            told[house] = true;
            hearing = 1;
            for (int i = 0; i < hearing && i < MOST_HOUSES; i++) {
                for (int h = 0; h < town.houses && hearing < MOST_HOUSES; h++) {
                    if (!told[h] && town.hears(line[i], h)) {
                        told[h] = true;
                        line[hearing] = h;
                        steps[hearing] = steps[i] + 1;
                        hearing++;
                    }
                }
            }
            return steps[hearing - 1];
        }
    }
}
