import java.util.ArrayList;
import java.util.Arrays;
import java.util.Comparator;
import java.util.HashMap;
import java.util.List;
import java.util.Map;
import java.util.TreeSet;

/**
 * The document once more, in another way and without thought of speed: maps in place of rows,
 * a tree in place of code, all orders and sets tried. ModelTest holds the program against it.
 */
final class Model {
    static final long NO = -1000000000000L;

    // ---- the language ----

    /** A fault, thrown where it is found. */
    static final class Fault extends Exception {
        private static final long serialVersionUID = 1;

        final int number;

        Fault(int place, int kind) {
            super("fault");
            number = 1 + 8 * place + kind;
        }
    }

    interface Sum {
        long of(Map<String, Long> words);
    }

    interface Test {
        boolean of(Map<String, Long> words);
    }

    record Clause(String sort, Sum sum, Test test) {
    }

    static final class Rule {
        final List<Clause> clauses = new ArrayList<>();
        int hold;

        long sum(String sort, Map<String, Long> words) {
            for (Clause c : clauses) {
                if (c.sort.equals(sort) && (c.test == null || c.test.of(words))) {
                    return c.sum.of(words);
                }
            }
            return 0;
        }
    }

    static final List<String> VALUES = List.of("quarter", "hour", "until", "people", "house", "cold", "good",
            "harm", "lack", "own", "store", "tie", "given", "got", "far");

    static final class Text {
        final String text;
        int i;
        int count;

        Text(String text) {
            this.text = text;
        }

        void blanks() {
            while (i < text.length() && text.charAt(i) == ' ') {
                i++;
            }
        }

        /** What is there, the whole word or number, the sign; "" at the end. */
        String look() {
            blanks();
            int k = i;
            if (k == text.length()) {
                return "";
            }
            char c = text.charAt(k);
            if (c >= 'a' && c <= 'z') {
                while (k < text.length() && text.charAt(k) >= 'a' && text.charAt(k) <= 'z') {
                    k++;
                }
            } else if (c >= '0' && c <= '9') {
                while (k < text.length() && text.charAt(k) >= '0' && text.charAt(k) <= '9') {
                    k++;
                }
            } else {
                k++;
                if ((c == '<' || c == '>') && k < text.length() && text.charAt(k) == '=') {
                    k++;
                }
            }
            return text.substring(i, k);
        }

        boolean take(String what) {
            if (look().equals(what)) {
                i += what.length();
                return true;
            }
            return false;
        }

        void one(int place) throws Fault {
            count++;
            if (count > 60) {
                throw new Fault(place, 3);
            }
        }

        int number(int most) throws Fault {
            String digits = look();
            if (digits.isEmpty() || !Character.isDigit(digits.charAt(0))) {
                throw new Fault(i, 0);
            }
            if (digits.length() > 5 || Integer.parseInt(digits) > most) {
                throw new Fault(i, 1);
            }
            return Integer.parseInt(digits);
        }

        Sum value() throws Fault {
            String t = look();
            if (!t.isEmpty() && t.charAt(0) >= '0' && t.charAt(0) <= '9') {
                long n = number(99999);
                one(i);
                i += t.length();
                return w -> n;
            }
            if (!VALUES.contains(t)) {
                throw new Fault(i, 0);
            }
            one(i);
            i += t.length();
            return w -> w.getOrDefault(t, 0L);
        }

        Sum term() throws Fault {
            Sum sum = value();
            while (true) {
                Sum left = sum;
                if (take("*")) {
                    Sum right = value();
                    sum = w -> left.of(w) * right.of(w);
                } else if (take("/")) {
                    Sum right = value();
                    sum = w -> right.of(w) == 0 ? 0 : left.of(w) / right.of(w);
                } else {
                    return sum;
                }
            }
        }

        Sum sum() throws Fault {
            Sum sum = term();
            while (true) {
                Sum left = sum;
                if (take("+")) {
                    Sum right = term();
                    sum = w -> left.of(w) + right.of(w);
                } else if (take("-")) {
                    Sum right = term();
                    sum = w -> left.of(w) - right.of(w);
                } else {
                    return sum;
                }
            }
        }

        Test fact(int open) throws Fault {
            String t = look();
            int place = i;
            if (t.equals("not") || t.equals("[")) {
                if (open == 10) {
                    throw new Fault(place, 2);
                }
                i += t.length();
                if (t.equals("not")) {
                    Test of = fact(open + 1);
                    return w -> !of.of(w);
                }
                Test of = test(open + 1);
                if (!take("]")) {
                    throw new Fault(i, 0);
                }
                return of;
            }
            Sum left = sum();
            String sign = look();
            if (!List.of("<", "<=", "=", ">=", ">").contains(sign)) {
                throw new Fault(i, 0);
            }
            one(i);
            i += sign.length();
            Sum right = sum();
            return w -> {
                int c = Long.compare(left.of(w), right.of(w));
                return sign.indexOf(c < 0 ? '<' : c > 0 ? '>' : '=') >= 0;
            };
        }

        Test part(int open) throws Fault {
            Test all = fact(open);
            while (take("and")) {
                Test left = all;
                Test right = fact(open);
                all = w -> left.of(w) && right.of(w);
            }
            return all;
        }

        Test test(int open) throws Fault {
            Test any = part(open);
            while (take("or")) {
                Test left = any;
                Test right = part(open);
                any = w -> left.of(w) || right.of(w);
            }
            return any;
        }

        Rule rule() throws Fault {
            Rule rule = new Rule();
            boolean held = false;
            int clauses = 0;
            do {
                String sort = look();
                int place = i;
                if (!List.of("spoil", "first", "give", "hold").contains(sort)) {
                    throw new Fault(place, 0);
                }
                clauses++;
                if (clauses > 12 || held && sort.equals("hold")) {
                    throw new Fault(place, 4);
                }
                i += sort.length();
                if (sort.equals("hold")) {
                    held = true;
                    rule.hold = number(9999);
                    i += look().length();
                } else {
                    Sum sum = sum();
                    Test test = take("if") ? test(0) : null;
                    rule.clauses.add(new Clause(sort, sum, test));
                }
            } while (take(";"));
            if (!look().isEmpty()) {
                throw new Fault(i, 0);
            }
            return rule;
        }
    }

    // ---- the street ----

    static final class House implements Cloneable {
        int x;
        int y;
        int people;
        int odds;
        boolean back;
        long harm;
        int[] store = new int[6];
    }

    static final class Need {
        int house;
        int good;
        int much;
        int harm;
        int from;
        int to;
        boolean known;
    }

    static final class Maker {
        int house;
        int eats;
        int much;
        int makes;
        int many;
        int noise;
        boolean on;
    }

    static final class Cable {
        int one;
        int other;
        int carry;
        int carried;
    }

    record Item(int house, int good, int n, int price) {
    }

    record End(int quarter, int weight) {
    }

    record Turner(int lasts, int left, int harm) {
    }

    record Pair(int one, int other) {
    }

    static final class Street {
        int now;
        int said = -1;
        List<House> houses = new ArrayList<>();
        List<Need> needs = new ArrayList<>();
        List<Maker> makers = new ArrayList<>();
        List<Cable> cables = new ArrayList<>();
        Map<Pair, Integer> ties = new HashMap<>();
        Map<Pair, Long> gave = new HashMap<>();
        List<Item> items = new ArrayList<>();
        List<End> ends = new ArrayList<>();
        Map<Integer, Turner> turners = new HashMap<>();

        Street copy() {
            Street s = new Street();
            s.now = now;
            s.said = said;
            for (House h : houses) {
                House c = new House();
                c.x = h.x;
                c.y = h.y;
                c.people = h.people;
                c.odds = h.odds;
                c.back = h.back;
                c.harm = h.harm;
                c.store = h.store.clone();
                s.houses.add(c);
            }
            for (Need n : needs) {
                Need c = new Need();
                c.house = n.house;
                c.good = n.good;
                c.much = n.much;
                c.harm = n.harm;
                c.from = n.from;
                c.to = n.to;
                c.known = n.known;
                s.needs.add(c);
            }
            for (Maker m : makers) {
                Maker c = new Maker();
                c.house = m.house;
                c.eats = m.eats;
                c.much = m.much;
                c.makes = m.makes;
                c.many = m.many;
                c.noise = m.noise;
                c.on = m.on;
                s.makers.add(c);
            }
            for (Cable k : cables) {
                Cable c = new Cable();
                c.one = k.one;
                c.other = k.other;
                c.carry = k.carry;
                c.carried = k.carried;
                s.cables.add(c);
            }
            s.ties.putAll(ties);
            s.gave.putAll(gave);
            s.items.addAll(items);
            s.ends.addAll(ends);
            s.turners.putAll(turners);
            return s;
        }

        int far(int a, int b) {
            House one = houses.get(a);
            House other = houses.get(b);
            return Math.abs(one.x - other.x) + Math.abs(one.y - other.y);
        }

        int tie(int of, int to) {
            return ties.getOrDefault(new Pair(of, to), 0);
        }

        long given(int by, int to) {
            return gave.getOrDefault(new Pair(by, to), 0L);
        }

        Cable cable(int a, int b) {
            for (Cable c : cables) {
                if (c.one == a && c.other == b || c.one == b && c.other == a) {
                    return c;
                }
            }
            return null;
        }

        boolean due(Need n) {
            return n.from <= now % 96 && now % 96 <= n.to;
        }

        int until() {
            return said < 0 ? 999 : said > now ? said - now : 0;
        }

        Map<String, Long> wordsOfHouse(int h) {
            Map<String, Long> w = new HashMap<>();
            w.put("quarter", (long) now);
            w.put("hour", (long) (now % 96) / 4);
            w.put("until", (long) until());
            w.put("people", (long) houses.get(h).people);
            w.put("house", (long) h);
            w.put("cold", (long) houses.get(h).store[1]);
            return w;
        }

        Map<String, Long> wordsOfNeed(Need n, int lack) {
            Map<String, Long> w = wordsOfHouse(n.house);
            w.put("good", (long) n.good);
            w.put("harm", (long) n.harm);
            w.put("lack", (long) lack);
            w.put("own", (long) houses.get(n.house).store[n.good]);
            return w;
        }

        Map<String, Long> wordsOfGiver(Need n, int lack, int giver) {
            Map<String, Long> w = wordsOfNeed(n, lack);
            w.put("store", (long) houses.get(giver).store[n.good]);
            w.put("tie", (long) tie(giver, n.house));
            w.put("given", given(giver, n.house));
            w.put("got", given(n.house, giver));
            w.put("far", (long) far(giver, n.house));
            return w;
        }

        long spoiled(Rule rule, int h) {
            long sum = rule.sum("spoil", wordsOfHouse(h));
            return Math.max(0, Math.min(houses.get(h).store[1], sum));
        }

        long quarter(Rule rule, int kind) {
            for (House h : houses) {
                if (h.back && h.store[0] < 9999) {
                    h.store[0] = 9999;
                }
            }
            for (Maker m : makers) {
                int[] store = houses.get(m.house).store;
                if (m.on && store[m.eats] >= m.much) {
                    store[m.eats] -= m.much;
                    store[m.makes] = Math.min(99999, store[m.makes] + m.many);
                }
            }
            for (int h = 0; h < houses.size(); h++) {
                houses.get(h).store[1] -= spoiled(rule, h);
            }
            for (Cable c : cables) {
                c.carried = 0;
            }
            Map<Need, Long> first = new HashMap<>();
            List<Need> line = new ArrayList<>();
            for (Need n : needs) {
                if (due(n)) {
                    first.put(n, rule.sum("first", wordsOfNeed(n, n.much)));
                    line.add(n);
                }
            }
            line.sort((a, b) -> Long.compare(first.get(b), first.get(a)));
            long harm = 0;
            for (Need n : line) {
                long lacking = serve(rule, kind, n);
                houses.get(n.house).harm += lacking * n.harm;
                harm += lacking * n.harm;
            }
            now++;
            return harm;
        }

        int serve(Rule rule, int kind, Need n) {
            int lack = n.much;
            int[] own = houses.get(n.house).store;
            while (lack > 0 && own[n.good] > 0) {
                lack--;
                own[n.good]--;
            }
            if (kind == 1 || kind == 0 && !n.known) {
                return lack;
            }
            List<Integer> others = new ArrayList<>();
            for (int h = 0; h < houses.size(); h++) {
                if (h != n.house) {
                    others.add(h);
                }
            }
            others.sort(Comparator.comparingInt(h -> 1000 * far(h, n.house) + h));
            for (int g : others) {
                int[] store = houses.get(g).store;
                long gift = Math.min(lack, store[n.good]);
                if (kind == 0) {
                    Cable cable = cable(g, n.house);
                    boolean may = n.good == 0 ? cable != null : tie(g, n.house) > 0;
                    if (lack == 0 || !may) {
                        continue;
                    }
                    long told = rule.sum("give", wordsOfGiver(n, lack, g));
                    told = told < 0 ? 0 : told > 99999 ? 99999 : told;
                    gift = Math.min(told, Math.min(lack, Math.max(0, store[n.good] - rule.hold)));
                    if (n.good == 0) {
                        gift = Math.min(gift, cable.carry - cable.carried);
                        cable.carried += gift;
                    }
                    gave.merge(new Pair(g, n.house), gift, Long::sum);
                }
                store[n.good] -= gift;
                lack -= gift;
            }
            return lack;
        }

        long harms(Rule rule, int n, int kind) {
            Street s = copy();
            long harm = 0;
            for (int i = 0; i < n; i++) {
                harm += s.quarter(rule, kind);
            }
            return harm;
        }

        boolean hear(int a, int b) {
            return tie(a, b) > 0 || tie(b, a) > 0;
        }

        /** Steps from one to each, -1 where none hears; one house may be away. */
        int[] steps(int from, int away) {
            int[] steps = new int[houses.size()];
            Arrays.fill(steps, -1);
            steps[from] = 0;
            for (int round = 0; round < 12; round++) {
                for (int a = 0; a < steps.length; a++) {
                    for (int b = 0; b < steps.length; b++) {
                        if (steps[a] == round && a != b && b != away && hear(a, b) && steps[b] < 0) {
                            steps[b] = round + 1;
                        }
                    }
                }
            }
            return steps;
        }

        int parts(int away) {
            TreeSet<Integer> left = new TreeSet<>();
            for (int h = 0; h < houses.size(); h++) {
                if (h != away) {
                    left.add(h);
                }
            }
            int parts = 0;
            while (!left.isEmpty()) {
                parts++;
                int[] steps = steps(left.first(), away);
                for (int h = 0; h < steps.length; h++) {
                    if (steps[h] >= 0) {
                        left.remove(h);
                    }
                }
            }
            return parts;
        }
    }

    Street s = new Street();
    final Street[] images = new Street[4];
    final List<Rule> rules = new ArrayList<>();
    final StringBuilder tape = new StringBuilder();

    private boolean house(int h) {
        return h >= 0 && h < s.houses.size();
    }

    private boolean two(int a, int b) {
        return house(a) && house(b) && a != b;
    }

    private static boolean in(int n, int least, int most) {
        return least <= n && n <= most;
    }

    private Rule get(int rule) {
        return in(rule, 0, rules.size() - 1) ? rules.get(rule) : null;
    }

    /** The answer of a call, told by its name and its numbers (a boolean counts 1 or 0). */
    long call(String name, int... a) {
        switch (name) {
            case "house": {
                if (!in(a[0], 0, 99) || !in(a[1], 0, 99) || !in(a[2], 0, 9) || s.houses.size() == 12) {
                    return -1;
                }
                House h = new House();
                h.x = a[0];
                h.y = a[1];
                h.people = a[2];
                s.houses.add(h);
                return s.houses.size() - 1;
            }
            case "store": {
                if (!house(a[0]) || !in(a[1], 0, 5) || !in(a[2], 0, 99999)) {
                    return -1;
                }
                int was = s.houses.get(a[0]).store[a[1]];
                s.houses.get(a[0]).store[a[1]] = a[2];
                return was;
            }
            case "need": {
                if (!house(a[0]) || !in(a[1], 0, 5) || !in(a[2], 1, 999) || !in(a[3], 0, 999)
                        || !in(a[4], 0, 95) || !in(a[5], 0, 95) || a[5] < a[4] || s.needs.size() == 40) {
                    return -1;
                }
                Need n = new Need();
                n.house = a[0];
                n.good = a[1];
                n.much = a[2];
                n.harm = a[3];
                n.from = a[4];
                n.to = a[5];
                n.known = a[6] == 0;
                s.needs.add(n);
                return s.needs.size() - 1;
            }
            case "maker": {
                if (!house(a[0]) || !in(a[1], 0, 5) || !in(a[2], 0, 999) || !in(a[3], 0, 5) || a[1] == a[3]
                        || !in(a[4], 1, 999) || !in(a[5], 0, 99) || s.makers.size() == 12) {
                    return -1;
                }
                Maker m = new Maker();
                m.house = a[0];
                m.eats = a[1];
                m.much = a[2];
                m.makes = a[3];
                m.many = a[4];
                m.noise = a[5];
                s.makers.add(m);
                return s.makers.size() - 1;
            }
            case "on": {
                if (!in(a[0], 0, s.makers.size() - 1) || s.makers.get(a[0]).on == (a[1] == 1)) {
                    return 0;
                }
                s.makers.get(a[0]).on = a[1] == 1;
                return 1;
            }
            case "cable": {
                if (!two(a[0], a[1]) || !in(a[2], 1, 9999) || s.cables.size() == 20 || s.cable(a[0], a[1]) != null) {
                    return -1;
                }
                Cable c = new Cable();
                c.one = a[0];
                c.other = a[1];
                c.carry = a[2];
                s.cables.add(c);
                return s.cables.size() - 1;
            }
            case "tie": {
                if (!two(a[0], a[1]) || !in(a[2], 0, 9)) {
                    return -1;
                }
                int was = s.tie(a[0], a[1]);
                s.ties.put(new Pair(a[0], a[1]), a[2]);
                return was;
            }
            case "knock": {
                if (!house(a[0])) {
                    return -1;
                }
                int n = 0;
                for (Need need : s.needs) {
                    if (need.house == a[0] && !need.known) {
                        need.known = true;
                        n++;
                    }
                }
                return n;
            }
            case "comes": {
                if (!house(a[0]) || s.houses.get(a[0]).back == (a[1] == 1)) {
                    return 0;
                }
                s.houses.get(a[0]).back = a[1] == 1;
                return 1;
            }
            case "say": {
                if (!in(a[0], -1, 99999)) {
                    return -2;
                }
                int was = s.said;
                s.said = a[0];
                return was;
            }
            case "feed": {
                if (tape.length() + 20 > 400) {
                    return -1;
                }
                for (int n : a) {
                    tape.append((char) (n >> 24 & 255)).append((char) (n >> 16 & 255));
                    tape.append((char) (n >> 8 & 255)).append((char) (n & 255));
                }
                return tape.length();
            }
            case "end": {
                if (a[0] < 0 || a[0] > tape.length()) {
                    return -1;
                }
                tape.setLength(a[0]);
                return a[0];
            }
            case "rule": {
                if (rules.size() == 8) {
                    return -1;
                }
                try {
                    rules.add(new Text(tape.toString()).rule());
                    return rules.size() - 1;
                } catch (Fault f) {
                    return -2 - f.number;
                } finally {
                    tape.setLength(0);
                }
            }
            case "run": {
                if (get(a[0]) == null || !in(a[1], 1, 60) || s.now + a[1] > 9999) {
                    return -1;
                }
                long harm = 0;
                for (int i = 0; i < a[1]; i++) {
                    harm += s.quarter(get(a[0]), 0);
                }
                return harm;
            }
            case "of": {
                if (!house(a[0]) || !in(a[1], 0, 9)) {
                    return -1;
                }
                House h = s.houses.get(a[0]);
                return a[1] < 6 ? h.store[a[1]] : a[1] == 6 ? h.people : a[1] == 7 ? h.back ? 1 : 0
                        : a[1] == 8 ? h.x : h.y;
            }
            case "needs": {
                if (!in(a[0], 0, s.needs.size() - 1) || !in(a[1], 0, 7)) {
                    return -1;
                }
                Need n = s.needs.get(a[0]);
                return new int[] {n.house, n.good, n.much, n.harm, n.from, n.to, n.known ? 1 : 0, s.due(n) ? 1 : 0}[a[1]];
            }
            case "harm":
                return house(a[0]) ? s.houses.get(a[0]).harm : -1;
            case "gave":
                return two(a[0], a[1]) ? s.given(a[0], a[1]) : -1;
            case "carried":
                return in(a[0], 0, s.cables.size() - 1) ? s.cables.get(a[0]).carried : -1;
            case "ahead": {
                if (get(a[0]) == null || !in(a[1], 0, s.needs.size() - 1)) {
                    return 0;
                }
                Need n = s.needs.get(a[1]);
                return get(a[0]).sum("first", s.wordsOfNeed(n, n.much));
            }
            case "total":
                return get(a[0]) == null || !in(a[1], 0, 60) || !in(a[2], 0, 2) ? -1 : s.harms(get(a[0]), a[1], a[2]);
            case "alone": {
                if (get(a[0]) == null || !in(a[1], 0, 60) || !in(a[2], 0, 2) || !house(a[3])) {
                    return -1;
                }
                Street t = s.copy();
                t.houses.get(a[3]).harm = 0;
                for (int i = 0; i < a[1]; i++) {
                    t.quarter(get(a[0]), a[2]);
                }
                return t.houses.get(a[3]).harm;
            }
            case "lost":
                return get(a[0]) == null || !in(a[1], 0, 60) ? NO
                        : s.harms(get(a[0]), a[1], 0) - s.harms(get(a[0]), a[1], 2);
            case "helps":
                return helps(a);
            case "missed": {
                int n = 0;
                for (Need need : s.needs) {
                    n += !need.known && s.due(need) && s.houses.get(need.house).store[need.good] < need.much ? 1 : 0;
                }
                return n;
            }
            case "cook": {
                if (get(a[0]) == null || !house(a[1]) || !in(a[2], 1, 99999)) {
                    return -1;
                }
                Street t = s.copy();
                int n = 0;
                while (t.houses.get(a[1]).store[1] >= a[2]) {
                    if (n == 400) {
                        return -2;
                    }
                    t.houses.get(a[1]).store[1] -= t.spoiled(get(a[0]), a[1]);
                    t.now++;
                    n++;
                }
                return n;
            }
            case "item": {
                if (!house(a[0]) || !in(a[1], 0, 5) || !in(a[2], 1, 99999) || !in(a[3], 0, 9999) || s.items.size() == 6) {
                    return -1;
                }
                s.items.add(new Item(a[0], a[1], a[2], a[3]));
                return s.items.size();
            }
            case "common":
                return common(a);
            case "ends": {
                if (!in(a[0], 0, 99999) || !in(a[1], 1, 999) || s.ends.size() == 6) {
                    return -1;
                }
                s.ends.add(new End(a[0], a[1]));
                return s.ends.size();
            }
            case "should":
                return should(a);
            case "reach":
                return reach(a[0]);
            case "odds": {
                if (!house(a[0]) || !in(a[1], 0, 1000)) {
                    return -1;
                }
                int were = s.houses.get(a[0]).odds;
                s.houses.get(a[0]).odds = a[1];
                return were;
            }
            case "doors":
                return doors(a[0], a[1], a[2]);
            case "turner": {
                if (!in(a[0], 0, 4) || !in(a[1], 1, 20) || !in(a[2], 0, 20) || !in(a[3], 0, 999)) {
                    return 0;
                }
                s.turners.put(a[0], new Turner(a[1], a[2], a[3]));
                return 1;
            }
            case "rows":
                return rows(a[0], a[1]);
            case "owes":
                return two(a[0], a[1]) ? s.given(a[1], a[0]) - s.given(a[0], a[1]) : NO;
            case "debtor": {
                int best = -2;
                long most = Long.MIN_VALUE;
                for (int h = 0; h < s.houses.size(); h++) {
                    long more = 0;
                    for (int o = 0; o < s.houses.size(); o++) {
                        more += s.given(o, h) - s.given(h, o);
                    }
                    if (more > most) {
                        most = more;
                        best = h;
                    }
                }
                return best;
            }
            case "noise": {
                if (!house(a[0])) {
                    return -1;
                }
                int noise = 0;
                for (Maker m : s.makers) {
                    noise += m.on ? Math.max(0, m.noise - s.far(m.house, a[0])) : 0;
                }
                return noise;
            }
            case "loud": {
                int best = -2;
                int most = -1;
                for (int m = 0; m < s.makers.size(); m++) {
                    int noise = 0;
                    for (int h = 0; h < s.houses.size(); h++) {
                        noise += Math.max(0, s.makers.get(m).noise - s.far(s.makers.get(m).house, h));
                    }
                    if (noise > most) {
                        most = noise;
                        best = m;
                    }
                }
                return best;
            }
            case "knows": {
                if (!house(a[0]) || !in(a[1], 0, 1)) {
                    return -1;
                }
                int[] steps = s.steps(a[0], -1);
                return a[1] == 0 ? Arrays.stream(steps).max().getAsInt() : Arrays.stream(steps).filter(n -> n > 0).count();
            }
            case "parts": {
                if (!in(a[0], 0, 1)) {
                    return -1;
                }
                if (a[0] == 0) {
                    return s.parts(-1);
                }
                int best = -2;
                for (int h = s.houses.size() - 1; h >= 0; h--) {
                    best = best < 0 || s.parts(h) >= s.parts(best) ? h : best;
                }
                return best;
            }
            case "count": {
                int[] all = {s.now, s.houses.size(), s.needs.size(), s.makers.size(), s.cables.size(), rules.size(),
                    s.items.size(), s.ends.size(), s.until(), s.now % 96 / 4, tape.length()};
                return in(a[0], 0, 10) ? all[a[0]] : -1;
            }
            case "image": {
                if (!in(a[0], 0, 3)) {
                    return -1;
                }
                images[a[0]] = s.copy();
                return s.now;
            }
            case "back": {
                if (!in(a[0], 0, 3) || images[a[0]] == null) {
                    return -1;
                }
                s = images[a[0]].copy();
                return s.now;
            }
            default:
                throw new IllegalArgumentException(name);
        }
    }

    private long helps(int[] a) {
        if (get(a[0]) == null || !in(a[1], 0, 20) || !in(a[2], 0, 1)) {
            return -1;
        }
        long best = -2;
        long least = -2;
        for (int h = 0; h < s.houses.size(); h++) {
            if (!s.houses.get(h).back) {
                Street t = s.copy();
                t.houses.get(h).back = true;
                long harm = t.harms(get(a[0]), a[1], 0);
                if (best < 0 || harm < least) {
                    best = h;
                    least = harm;
                }
            }
        }
        return a[2] == 0 ? best : least;
    }

    private long common(int[] a) {
        if (get(a[0]) == null || !in(a[1], 0, 99999) || !in(a[2], 0, 20) || !in(a[3], 0, 1)) {
            return -1;
        }
        List<long[]> sets = new ArrayList<>();
        for (int set = 0; set < 1 << s.items.size(); set++) {
            Street t = s.copy();
            int price = 0;
            for (int i = 0; i < s.items.size(); i++) {
                if ((set & 1 << i) != 0) {
                    Item item = s.items.get(i);
                    price += item.price;
                    int[] store = t.houses.get(item.house).store;
                    store[item.good] = Math.min(99999, store[item.good] + item.n);
                }
            }
            if (price <= a[1]) {
                sets.add(new long[] {t.harms(get(a[0]), a[2], 0), price, set});
            }
        }
        sets.sort(Comparator.<long[]>comparingLong(r -> r[0]).thenComparingLong(r -> r[1]).thenComparingLong(r -> r[2]));
        return a[3] == 0 ? sets.get(0)[2] : sets.get(0)[0];
    }

    private long should(int[] a) {
        if (get(a[0]) == null || !in(a[1], 0, 1)) {
            return -1;
        }
        long best = -2;
        long least = -2;
        TreeSet<Integer> quarters = new TreeSet<>();
        for (End e : s.ends) {
            quarters.add(e.quarter);
        }
        for (int quarter : quarters) {
            Street t = s.copy();
            t.said = quarter;
            long sum = 0;
            for (End e : s.ends) {
                if (e.quarter <= s.now + 60) {
                    sum += e.weight * t.harms(get(a[0]), Math.max(0, e.quarter - s.now), 0);
                }
            }
            if (best < 0 || sum < least) {
                best = quarter;
                least = sum;
            }
        }
        return a[1] == 0 ? best : least;
    }

    /** The least length by growing trees that hold ever more of the told houses, up to each house. */
    private long reach(int set) {
        int n = s.houses.size();
        if (set < 0 || set >= 1 << n) {
            return -1;
        }
        List<Integer> told = new ArrayList<>();
        for (int h = 0; h < n; h++) {
            if ((set & 1 << h) != 0) {
                told.add(h);
            }
        }
        if (told.size() < 2) {
            return 0;
        }
        int k = told.size();
        long[][] tree = new long[1 << k][n];
        for (int part = 1; part < 1 << k; part++) {
            for (int v = 0; v < n; v++) {
                tree[part][v] = Long.MAX_VALUE / 4;
                if (Integer.bitCount(part) == 1) {
                    tree[part][v] = s.far(told.get(Integer.numberOfTrailingZeros(part)), v);
                }
                for (int sub = (part - 1) & part; sub > 0; sub = (sub - 1) & part) {
                    tree[part][v] = Math.min(tree[part][v], tree[sub][v] + tree[part ^ sub][v]);
                }
            }
            long[] grown = tree[part].clone();
            for (int v = 0; v < n; v++) {
                for (int u = 0; u < n; u++) {
                    grown[v] = Math.min(grown[v], tree[part][u] + s.far(u, v));
                }
            }
            tree[part] = grown;
        }
        return tree[(1 << k) - 1][told.get(0)];
    }

    private long doors(int from, int set, int k) {
        if (!house(from) || set < 0 || set >= 1 << s.houses.size() || (set & 1 << from) != 0) {
            return -1;
        }
        List<Integer> left = new ArrayList<>();
        for (int h = 0; h < s.houses.size(); h++) {
            if ((set & 1 << h) != 0) {
                left.add(h);
            }
        }
        if (left.size() > 6 || k < -1 || k >= left.size()) {
            return -1;
        }
        long[] best = bestWalk(from, left, 0);
        return k == -1 ? best[0] : best[1 + k];
    }

    private long[] bestWalk(int at, List<Integer> left, int walked) {
        long[] best = {0};
        for (int h : left) {
            List<Integer> others = new ArrayList<>(left);
            others.remove((Integer) h);
            int now = walked + s.far(at, h);
            long[] rest = bestWalk(h, others, now);
            long sum = (long) now * s.houses.get(h).odds + rest[0];
            if (best.length == 1 || sum < best[0]) {
                best = new long[left.size() + 1];
                best[0] = sum;
                best[1] = h;
                System.arraycopy(rest, 1, best, 2, rest.length - 1);
            }
        }
        return best;
    }

    private long rows(int n, int k) {
        if (!in(n, 1, 7) || !in(k, -1, n - 1)) {
            return -1;
        }
        if (s.turners.isEmpty()) {
            return -2;
        }
        Map<Integer, Integer> left = new HashMap<>();
        s.turners.forEach((t, turner) -> left.put(t, turner.left));
        long[] best = bestRow(n, left);
        return k == -1 ? best[0] : best[1 + k];
    }

    private long[] bestRow(int n, Map<Integer, Integer> left) {
        long[] best = new long[n + 1];
        best[0] = Long.MAX_VALUE;
        if (n == 0) {
            best[0] = 0;
            return best;
        }
        for (int who = 0; who < 5; who++) {
            if (left.containsKey(who)) {
                Map<Integer, Integer> then = new HashMap<>();
                long harm = 0;
                for (int t : left.keySet()) {
                    then.put(t, t == who ? s.turners.get(t).lasts : Math.max(0, left.get(t) - 1));
                    harm += t != who && then.get(t) == 0 ? s.turners.get(t).harm : 0;
                }
                long[] rest = bestRow(n - 1, then);
                if (harm + rest[0] < best[0]) {
                    best[0] = harm + rest[0];
                    best[1] = who;
                    System.arraycopy(rest, 1, best, 2, n - 1);
                }
            }
        }
        return best;
    }
}
