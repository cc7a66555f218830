/** Images: promises 44 and 45. */
public final class ImageTest {
    private static final Checks CHECKS = new Checks("images");

    public static void main(String[] args) {
        arguments();
        allIsKept();
        whatStays();
        CHECKS.close();
    }

    private static void due(String call, long got, long want) {
        CHECKS.due(call, got, want);
    }

    private static void arguments() {
        DarkStreet x = new DarkStreet();
        due("back to none", x.back(0), -1);
        due("image of nothing", x.image(3), 0);
        due("image 4", x.image(4), -1);
        due("image -1", x.image(-1), -1);
        x.house(1, 1, 1);
        due("back(2)", x.back(2), -1);
        due("nothing happened", x.count(1), 1);
        due("back(3)", x.back(3), 0);
        due("as nothing was told", x.count(1), 0);
        due("back(4)", x.back(4), -1);
        due("back(-1)", x.back(-1), -1);
    }

    private static DarkStreet street() {
        DarkStreet x = new DarkStreet();
        x.house(0, 0, 1);
        x.house(5, 5, 2);
        x.store(0, 4, 50);
        x.store(1, 0, 50);
        x.store(0, 1, 50);
        x.need(1, 4, 3, 2, 0, 95, false);
        x.need(0, 0, 3, 7, 0, 95, true);
        x.need(0, 0, 9, 7, 0, 95, false);
        x.maker(0, 3, 0, 2, 1, 30);
        x.on(0, true);
        x.cable(0, 1, 4);
        x.tie(0, 1, 3);
        x.say(40);
        x.item(0, 0, 5, 5);
        x.ends(20, 3);
        x.odds(1, 30);
        x.turner(0, 2, 1, 9);
        x.turner(2, 2, 1, 8);
        Checks.rule(x, "give 2;spoil 1");
        return x;
    }

    /** All that can be asked of that street, one number behind the other. */
    private static String all(DarkStreet x) {
        StringBuilder all = new StringBuilder();
        for (int h = 0; h < 3; h++) {
            for (int what = 0; what < 10; what++) {
                all.append(x.of(h, what)).append(' ');
            }
            all.append(x.harm(h)).append(' ').append(x.noise(h)).append(' ').append(x.knows(h, 0)).append(' ');
        }
        for (int n = 0; n < 4; n++) {
            for (int what = 0; what < 8; what++) {
                all.append(x.needs(n, what)).append(' ');
            }
        }
        all.append(x.gave(0, 1)).append(' ').append(x.gave(1, 0)).append(' ').append(x.carried(0)).append(' ');
        all.append(x.total(0, 9, 0)).append(' ').append(x.common(0, 9, 5, 0)).append(' ');
        all.append(x.should(0, 0)).append(' ').append(x.should(0, 1)).append(' ');
        all.append(x.doors(0, 2, -1)).append(' ').append(x.loud()).append(' ');
        for (int n = 1; n <= 7; n++) {
            all.append(x.rows(n, -1)).append(' ').append(x.rows(n, 0)).append(' ');
        }
        for (int what = 0; what < 10; what++) {
            all.append(x.count(what)).append(' ');
        }
        return all.toString();
    }

    private static void change(DarkStreet x) {
        x.run(0, 3);
        x.knock(0);
        x.house(9, 9, 9);
        x.comes(1, true);
        x.store(0, 5, 5);
        x.need(2, 0, 1, 1, 1, 1, false);
        x.on(0, false);
        x.maker(2, 3, 0, 2, 1, 99);
        x.cable(0, 2, 1);
        x.tie(1, 0, 1);
        x.tie(0, 1, 0);
        x.say(-1);
        x.item(0, 0, 5, 1);
        x.ends(7, 1);
        x.odds(1, 1);
        x.turner(0, 9, 9, 9);
        x.turner(4, 2, 1, 999);
    }

    private static void allIsKept() {
        DarkStreet x = street();
        x.run(0, 2);
        String before = all(x);
        due("image", x.image(1), 2);
        change(x);
        String after = all(x);
        due("it changed", before.equals(after) ? 1 : 0, 0);
        x.image(2);
        due("back", x.back(1), 2);
        due("as it was", before.equals(all(x)) ? 1 : 0, 1);
        due("back again", x.back(2), 5);
        due("as it was then", after.equals(all(x)) ? 1 : 0, 1);
        due("and again", x.back(1), 2);
        change(x);
        due("changes don't touch the image", x.back(1), 2);
        due("as it was", before.equals(all(x)) ? 1 : 0, 1);
        change(x);
        x.image(1);
        x.store(0, 5, 77);
        x.back(1);
        due("an image made anew", after.equals(all(x)) ? 1 : 0, 1);
        emptyBetween();
    }

    /** What an image holds does not hang on what was told where it was not yet made. */
    private static void emptyBetween() {
        DarkStreet x = new DarkStreet();
        x.image(0);
        x.house(0, 0, 0);
        x.need(0, 4, 2, 3, 0, 95, false);
        x.item(0, 4, 2, 5);
        x.ends(3, 4);
        x.maker(0, 3, 0, 4, 1, 50);
        x.turner(0, 1, 0, 7);
        Checks.rule(x, "hold 0");
        String before = all(x);
        x.image(3);
        x.back(0);
        due("nothing told", x.rows(1, -1), -2);
        x.house(5, 5, 5);
        x.house(6, 6, 6);
        x.need(1, 5, 9, 9, 1, 95, true);
        x.item(1, 3, 9, 9);
        x.ends(2, 9);
        x.maker(1, 2, 9, 5, 9, 9);
        x.cable(0, 1, 7);
        x.turner(0, 9, 9, 9);
        x.back(3);
        due("as it was", before.equals(all(x)) ? 1 : 0, 1);
    }

    private static void whatStays() {
        DarkStreet x = street();
        x.image(0);
        Checks.rule(x, "hold 3");
        Checks.feed(x, "give 4");
        x.back(0);
        due("rules stay", x.count(5), 2);
        due("the tape stays", x.count(10), 6);
        due("and can be a rule", x.rule(), 2);
        x.house(0, 0, 0);
        due("a house after going back is new", x.of(2, 6), 0);
        x.store(2, 0, 5);
        x.comes(2, true);
        x.odds(2, 9);
        x.back(0);
        due("again new", x.house(7, 7, 3), 2);
        due("its store", x.of(2, 0), 0);
        due("not back", x.of(2, 7), 0);
        due("its odds", x.odds(2, 1), 0);
        due("its ties", x.tie(2, 0, 0), 0);
    }
}
