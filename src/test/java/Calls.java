/** A call of a street, told by its name and its numbers. */
final class Calls {
    private Calls() {
    }

    /** The answer; a boolean counts 1 or 0, told and answered. */
    static long answer(DarkStreet x, String name, int... a) {
        switch (name) {
            case "house": return x.house(a[0], a[1], a[2]);
            case "store": return x.store(a[0], a[1], a[2]);
            case "need": return x.need(a[0], a[1], a[2], a[3], a[4], a[5], a[6] == 1);
            case "maker": return x.maker(a[0], a[1], a[2], a[3], a[4], a[5]);
            case "on": return x.on(a[0], a[1] == 1) ? 1 : 0;
            case "cable": return x.cable(a[0], a[1], a[2]);
            case "tie": return x.tie(a[0], a[1], a[2]);
            case "knock": return x.knock(a[0]);
            case "comes": return x.comes(a[0], a[1] == 1) ? 1 : 0;
            case "say": return x.say(a[0]);
            case "feed": return x.feed(a[0], a[1], a[2], a[3], a[4]);
            case "end": return x.end(a[0]);
            case "rule": return x.rule();
            case "run": return x.run(a[0], a[1]);
            case "of": return x.of(a[0], a[1]);
            case "needs": return x.needs(a[0], a[1]);
            case "harm": return x.harm(a[0]);
            case "gave": return x.gave(a[0], a[1]);
            case "carried": return x.carried(a[0]);
            case "ahead": return x.ahead(a[0], a[1]);
            case "total": return x.total(a[0], a[1], a[2]);
            case "alone": return x.alone(a[0], a[1], a[2], a[3]);
            case "lost": return x.lost(a[0], a[1]);
            case "helps": return x.helps(a[0], a[1], a[2]);
            case "missed": return x.missed();
            case "cook": return x.cook(a[0], a[1], a[2]);
            case "item": return x.item(a[0], a[1], a[2], a[3]);
            case "common": return x.common(a[0], a[1], a[2], a[3]);
            case "ends": return x.ends(a[0], a[1]);
            case "should": return x.should(a[0], a[1]);
            case "reach": return x.reach(a[0]);
            case "odds": return x.odds(a[0], a[1]);
            case "doors": return x.doors(a[0], a[1], a[2]);
            case "turner": return x.turner(a[0], a[1], a[2], a[3]) ? 1 : 0;
            case "rows": return x.rows(a[0], a[1]);
            case "owes": return x.owes(a[0], a[1]);
            case "debtor": return x.debtor();
            case "noise": return x.noise(a[0]);
            case "loud": return x.loud();
            case "knows": return x.knows(a[0], a[1]);
            case "parts": return x.parts(a[0]);
            case "count": return x.count(a[0]);
            case "image": return x.image(a[0]);
            case "back": return x.back(a[0]);
            default: throw new IllegalArgumentException(name);
        }
    }
}
