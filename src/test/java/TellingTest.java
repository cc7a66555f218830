/** What one tells of a street: promises 1 to 13, 16, 17 and 43. */
public final class TellingTest {
    private static final Checks CHECKS = new Checks("telling");

    public static void main(String[] args) {
        aNewObject();
        houses();
        stores();
        needs();
        knocks();
        makers();
        cablesAndTies();
        backAndSaid();
        tape();
        counts();
        CHECKS.close();
    }

    private static void due(String call, long got, long want) {
        CHECKS.due(call, got, want);
    }

    /** A street with two houses, 0 and 1. */
    private static DarkStreet two() {
        DarkStreet x = new DarkStreet();
        x.house(3, 4, 2);
        x.house(10, 20, 0);
        return x;
    }

    private static void aNewObject() {
        DarkStreet x = new DarkStreet();
        due("NONE", DarkStreet.NONE, -1);
        for (int what = 0; what <= 10; what++) {
            due("new: count(" + what + ")", x.count(what), what == 8 ? 999 : 0);
        }
        due("new: of", x.of(0, 0), -1);
        due("new: run", x.run(0, 1), -1);
        due("new: total", x.total(0, 0, 0), -1);
        due("new: say", x.say(5), -1);
        due("new: back", x.back(0), -1);
        due("new: rows", x.rows(1, -1), -2);
    }

    private static void houses() {
        DarkStreet x = new DarkStreet();
        int[][] wrong = {{-1, 0, 0}, {100, 0, 0}, {0, -1, 0}, {0, 100, 0}, {0, 0, -1}, {0, 0, 10}};
        for (int[] w : wrong) {
            due("house as not told", x.house(w[0], w[1], w[2]), -1);
        }
        for (int i = 0; i < 12; i++) {
            due("house " + i, x.house(i == 0 ? 99 : i, i == 1 ? 99 : 0, i == 2 ? 9 : 0), i);
        }
        due("a thirteenth house", x.house(0, 0, 0), -1);
        due("count(1)", x.count(1), 12);
        due("of x", x.of(0, 8), 99);
        due("of y", x.of(1, 9), 99);
        due("of people", x.of(2, 6), 9);
        due("of back", x.of(2, 7), 0);
        due("of(12)", x.of(12, 6), -1);
        due("of(-1)", x.of(-1, 6), -1);
        due("of what 10", x.of(0, 10), -1);
        due("of what -1", x.of(0, -1), -1);
    }

    private static void stores() {
        DarkStreet x = two();
        for (int good = 0; good < 6; good++) {
            due("store was 0", x.store(1, good, 10 + good), 0);
        }
        for (int good = 0; good < 6; good++) {
            due("of store " + good, x.of(1, good), 10 + good);
            due("of the other", x.of(0, good), 0);
        }
        due("store 99999", x.store(1, 2, 99999), 12);
        due("store 100000", x.store(1, 2, 100000), -1);
        due("store -1", x.store(1, 2, -1), -1);
        due("store good 6", x.store(1, 6, 1), -1);
        due("store good -1", x.store(1, -1, 1), -1);
        due("store house 2", x.store(2, 0, 1), -1);
        due("store house -1", x.store(-1, 0, 1), -1);
        due("store stays", x.store(1, 2, 0), 99999);
        due("store 0", x.of(1, 2), 0);
    }

    private static void needs() {
        DarkStreet x = two();
        due("need house", x.need(2, 0, 1, 1, 0, 1, false), -1);
        due("need house -1", x.need(-1, 0, 1, 1, 0, 1, false), -1);
        due("need good", x.need(0, 6, 1, 1, 0, 1, false), -1);
        due("need good -1", x.need(0, -1, 1, 1, 0, 1, false), -1);
        due("need much 0", x.need(0, 0, 0, 1, 0, 1, false), -1);
        due("need much 1000", x.need(0, 0, 1000, 1, 0, 1, false), -1);
        due("need harm -1", x.need(0, 0, 1, -1, 0, 1, false), -1);
        due("need harm 1000", x.need(0, 0, 1, 1000, 0, 1, false), -1);
        due("need from -1", x.need(0, 0, 1, 1, -1, 1, false), -1);
        due("need to 96", x.need(0, 0, 1, 1, 0, 96, false), -1);
        due("need to below from", x.need(0, 0, 1, 1, 7, 6, false), -1);
        due("need 0", x.need(1, 5, 999, 998, 3, 95, true), 0);
        due("need 1", x.need(0, 0, 1, 0, 0, 0, false), 1);
        int[] zeroth = {1, 5, 999, 998, 3, 95, 0, 0};
        int[] first = {0, 0, 1, 0, 0, 0, 1, 1};
        for (int what = 0; what < 8; what++) {
            due("needs(0, " + what + ")", x.needs(0, what), zeroth[what]);
            due("needs(1, " + what + ")", x.needs(1, what), first[what]);
        }
        due("needs what 8", x.needs(0, 8), -1);
        due("needs what -1", x.needs(0, -1), -1);
        due("needs(2)", x.needs(2, 0), -1);
        due("needs(-1)", x.needs(-1, 0), -1);
        Checks.rule(x, "hold 0");
        for (int now = 0; now <= 200; now++) {
            int time = now % 96;
            due("due at " + now, x.needs(0, 7), time >= 3 && time <= 95 ? 1 : 0);
            due("due at 0 alone, " + now, x.needs(1, 7), time == 0 ? 1 : 0);
            x.run(0, 1);
        }
        due("need from 95", x.need(0, 0, 1, 1, 95, 95, false), 2);
        due("need from 96", x.need(0, 0, 1, 1, 96, 96, false), -1);
        for (int i = 3; i < 40; i++) {
            due("need " + i, x.need(0, 0, 1, 1, 0, 1, false), i);
        }
        due("a forty-first need", x.need(0, 0, 1, 1, 0, 1, false), -1);
        due("count(2)", x.count(2), 40);
    }

    private static void knocks() {
        DarkStreet x = two();
        x.need(0, 0, 1, 1, 0, 95, true);
        x.need(1, 0, 1, 1, 0, 95, true);
        x.need(1, 1, 1, 1, 0, 95, false);
        x.need(1, 2, 1, 1, 5, 6, true);
        due("knock(2)", x.knock(2), -1);
        due("knock(-1)", x.knock(-1), -1);
        due("knock(1)", x.knock(1), 2);
        due("knock(1) again", x.knock(1), 0);
        due("the other house's stays hidden", x.needs(0, 6), 0);
        due("known", x.needs(1, 6), 1);
        due("known too, not due", x.needs(3, 6), 1);
        x.need(1, 3, 1, 1, 0, 95, true);
        due("one told after the knock is hidden", x.needs(4, 6), 0);
        due("till the next knock", x.knock(1), 1);
    }

    private static void makers() {
        DarkStreet x = two();
        due("maker house", x.maker(2, 0, 1, 1, 1, 0), -1);
        due("maker house -1", x.maker(-1, 0, 1, 1, 1, 0), -1);
        due("maker eats 6", x.maker(0, 6, 1, 1, 1, 0), -1);
        due("maker eats -1", x.maker(0, -1, 1, 1, 1, 0), -1);
        due("maker makes 6", x.maker(0, 0, 1, 6, 1, 0), -1);
        due("maker makes -1", x.maker(0, 0, 1, -1, 1, 0), -1);
        due("maker alike", x.maker(0, 3, 1, 3, 1, 0), -1);
        due("maker much -1", x.maker(0, 0, -1, 1, 1, 0), -1);
        due("maker much 1000", x.maker(0, 0, 1000, 1, 1, 0), -1);
        due("maker many 0", x.maker(0, 0, 1, 1, 0, 0), -1);
        due("maker many 1000", x.maker(0, 0, 1, 1, 1000, 0), -1);
        due("maker noise -1", x.maker(0, 0, 1, 1, 1, -1), -1);
        due("maker noise 100", x.maker(0, 0, 1, 1, 1, 100), -1);
        due("maker 0", x.maker(0, 0, 0, 1, 999, 99), 0);
        CHECKS.no("off already", x.on(0, false));
        CHECKS.yes("on", x.on(0, true));
        CHECKS.no("on already", x.on(0, true));
        CHECKS.yes("off", x.on(0, false));
        CHECKS.no("no such maker", x.on(1, true));
        CHECKS.no("no such maker -1", x.on(-1, true));
        for (int i = 1; i < 12; i++) {
            due("maker " + i, x.maker(1, 5, 999, 0, 1, 0), i);
        }
        due("a thirteenth maker", x.maker(0, 0, 1, 1, 1, 0), -1);
        due("count(3)", x.count(3), 12);
    }

    private static void cablesAndTies() {
        DarkStreet x = two();
        x.house(0, 0, 0);
        due("cable to itself", x.cable(1, 1, 5), -1);
        due("cable house 3", x.cable(1, 3, 5), -1);
        due("cable house -1", x.cable(-1, 1, 5), -1);
        due("cable carry 0", x.cable(0, 1, 0), -1);
        due("cable carry 10000", x.cable(0, 1, 10000), -1);
        due("cable 0", x.cable(1, 0, 9999), 0);
        due("cable once", x.cable(1, 0, 1), -1);
        due("cable once, the other way", x.cable(0, 1, 1), -1);
        due("cable 1", x.cable(2, 0, 1), 1);
        due("carried", x.carried(1), 0);
        due("carried(2)", x.carried(2), -1);
        due("carried(-1)", x.carried(-1), -1);
        due("tie", x.tie(0, 1, 9), 0);
        due("tie was", x.tie(0, 1, 3), 9);
        due("tie the other way", x.tie(1, 0, 2), 0);
        due("tie stays", x.tie(0, 1, 10), -1);
        due("tie -1", x.tie(0, 1, -1), -1);
        due("tie to itself", x.tie(1, 1, 1), -1);
        due("tie house 3", x.tie(0, 3, 1), -1);
        due("tie house -1", x.tie(-1, 0, 1), -1);
        due("tie was 3", x.tie(0, 1, 0), 3);
        for (int i = 3; i < 12; i++) {
            x.house(i, i, 0);
        }
        for (int i = 1; i < 12; i++) {
            if (i > 2) {
                due("cable " + (i - 1), x.cable(0, i, 1), i - 1);
            }
        }
        for (int i = 2; i < 11; i++) {
            due("cable " + (i + 9), x.cable(1, i, 1), i + 9);
        }
        due("a twenty-first cable", x.cable(2, 3, 1), -1);
        due("count(4)", x.count(4), 20);
    }

    private static void backAndSaid() {
        DarkStreet x = two();
        CHECKS.no("not back already", x.comes(1, false));
        CHECKS.yes("comes", x.comes(1, true));
        CHECKS.no("comes again", x.comes(1, true));
        due("of back", x.of(1, 7), 1);
        due("no current before a quarter", x.of(1, 0), 0);
        CHECKS.yes("goes", x.comes(1, false));
        due("of not back", x.of(1, 7), 0);
        CHECKS.no("comes(2)", x.comes(2, true));
        CHECKS.no("comes(-1)", x.comes(-1, true));
        due("say(-2)", x.say(-2), -2);
        due("say(100000)", x.say(100000), -2);
        due("until unsaid", x.count(8), 999);
        due("say(99999)", x.say(99999), -1);
        due("until", x.count(8), 99999);
        due("say(0)", x.say(0), 99999);
        due("until 0", x.count(8), 0);
        due("say(3)", x.say(3), 0);
        Checks.rule(x, "hold 0");
        for (int now = 0; now < 6; now++) {
            due("until at " + now, x.count(8), Math.max(0, 3 - now));
            x.run(0, 1);
        }
        due("say(NONE)", x.say(-1), 3);
        due("until unsaid again", x.count(8), 999);
    }

    private static void tape() {
        DarkStreet x = new DarkStreet();
        for (int i = 1; i <= 20; i++) {
            due("feed " + i, x.feed(-1, 0, 0x7FFFFFFF, i, -2), 20 * i);
        }
        due("feed beyond 400", x.feed(0, 0, 0, 0, 0), -1);
        due("end(401)", x.end(401), -1);
        due("end(-1)", x.end(-1), -1);
        due("nothing happened", x.count(10), 400);
        due("end(381)", x.end(381), 381);
        due("feed with 381", x.feed(0, 0, 0, 0, 0), -1);
        due("end(382)", x.end(382), -1);
        due("end(380)", x.end(380), 380);
        due("feed with 380", x.feed(0, 0, 0, 0, 0), 400);
        due("end(0)", x.end(0), 0);
        due("count(10)", x.count(10), 0);
        due("the highest first", x.feed('h' << 24 | 'o' << 16 | 'l' << 8 | 'd', ' ' << 24 | '7' << 16, 0, 0, 0), 20);
        due("end(6)", x.end(6), 6);
        due("rule", x.rule(), 0);
        due("empty then", x.count(10), 0);
    }

    private static void counts() {
        DarkStreet x = two();
        due("count(-1)", x.count(-1), -1);
        due("count(11)", x.count(11), -1);
        Checks.rule(x, "hold 1");
        due("count(5)", x.count(5), 1);
        x.item(0, 0, 1, 1);
        due("count(6)", x.count(6), 1);
        x.ends(4, 4);
        due("count(7)", x.count(7), 1);
        for (int now = 0; now <= 100; now++) {
            due("now", x.count(0), now);
            due("hour at " + now, x.count(9), now % 96 / 4);
            x.run(0, 1);
        }
    }
}
