import java.util.ArrayList;
import java.util.Arrays;
import java.util.List;
import java.util.Random;

/** Runs of calls told by dice with a fixed seed, each answer held against the model's. */
public final class ModelTest {
    private static final Checks CHECKS = new Checks("model");
    private static final String[] SIGNS = {"<", "<=", "=", ">=", ">"};
    private static final String[] PIECES = {"spoil", "first", "give", "hold", "if", "and", "or", "not", "[", "]", ";",
        "+", "-", "*", "/", "<", "=", ">", "<=", ">=", " ", "  ", "1", "0", "99999", "100000", "10000", "9999", "x",
        "own", "cold", "far", "colds", "A", "(", "!", "\n", "not [", "2<3", "1+", "and not", "or ["};

    private final Random dice;
    private final DarkStreet x = new DarkStreet();
    private final Model model = new Model();
    private final List<String> calls = new ArrayList<>();
    private int made;
    private boolean wrong;

    private ModelTest(long seed) {
        // Seeds that lie side by side would begin alike.
        dice = new Random(seed * 0x9E3779B97F4A7C15L);
    }

    public static void main(String[] args) {
        int runs = args.length > 0 ? Integer.parseInt(args[0]) : 600;
        for (int seed = 0; seed < runs; seed++) {
            ModelTest run = new ModelTest(seed);
            run.play();
            if (run.wrong) {
                run.calls.forEach(System.out::println);
                CHECKS.due("run of seed " + seed, 0, 1);
                break;
            }
        }
        CHECKS.close();
    }

    private void play() {
        if (dice.nextInt(4) == 0) {
            for (int i = 0; i < 120 && !wrong; i++) {
                if (model.rules.size() == 8) {
                    return;
                }
                rule();
            }
            return;
        }
        int houses = dice.nextInt(6) == 0 ? dice.nextInt(3) : 2 + dice.nextInt(11);
        for (int h = 0; h < houses; h++) {
            call("house", near(100), near(100), dice.nextInt(10));
        }
        int rules = 1 + dice.nextInt(3);
        for (int r = 0; r < rules; r++) {
            tell(goodRule());
        }
        // Now and then a street is told so much that its rows are full.
        int early = dice.nextInt(8) == 0 ? 300 : dice.nextInt(120);
        for (int i = 0; i < early && !wrong; i++) {
            tellOne();
        }
        int later = 80 + dice.nextInt(150);
        for (int i = 0; i < later && !wrong; i++) {
            if (dice.nextInt(4) == 0) {
                tellOne();
            } else if (dice.nextInt(8) == 0) {
                call("run", anyRule(), dice.nextInt(5) == 0 ? n(60) : 1 + dice.nextInt(6));
            } else {
                askOne();
            }
        }
    }

    private void call(String name, int... a) {
        if (wrong || made == 512) {
            return;
        }
        made++;
        long want = model.call(name, a);
        long got = Calls.answer(x, name, a);
        calls.add(name + Arrays.toString(a) + " " + got + (got == want ? "" : ", due is " + want));
        wrong = got != want;
    }

    /** A number from 0 to most, now and then one beside it or far off. */
    private int n(int most) {
        int odd = dice.nextInt(60);
        if (odd == 0) {
            return -1;
        }
        if (odd == 1) {
            return most + 1;
        }
        if (odd == 2) {
            return dice.nextBoolean() ? Integer.MIN_VALUE : Integer.MAX_VALUE;
        }
        return odd < 6 ? most : odd < 9 ? 0 : dice.nextInt(most + 1);
    }

    /** A number below, mostly a small one, so that many are alike. */
    private int near(int below) {
        return dice.nextInt(3) == 0 ? dice.nextInt(below) : dice.nextInt(5);
    }

    private int house() {
        return n(Math.max(0, model.s.houses.size() - 1));
    }

    private int anyRule() {
        return n(Math.max(0, model.rules.size() - 1));
    }

    private int set() {
        int all = 1 << model.s.houses.size();
        return dice.nextInt(30) == 0 ? n(all) : dice.nextInt(all) & (dice.nextBoolean() ? dice.nextInt(all) : -1);
    }

    private int some(int most) {
        return dice.nextInt(3) == 0 ? n(most) : dice.nextInt(Math.min(most, 12) + 1);
    }

    private void tellOne() {
        switch (dice.nextInt(26)) {
            case 0: case 1: case 2: case 3: case 4:
                call("store", house(), n(5), dice.nextInt(6) == 0 ? n(99999) : n(60));
                break;
            case 5: case 6: case 7: case 8: case 9: case 10:
                int from = dice.nextInt(3) == 0 ? n(95) : 0;
                call("need", house(), n(5), 1 + some(998), some(999), from, dice.nextInt(3) == 0 ? n(95) : 95,
                        dice.nextInt(3) == 0 ? 1 : 0);
                break;
            case 11: case 12:
                call("maker", house(), n(5), some(999), n(5), some(999), n(99));
                break;
            case 13:
                call("on", n(Math.max(0, model.s.makers.size() - 1)), dice.nextInt(3) == 0 ? 0 : 1);
                break;
            case 14: case 15: case 16:
                call("cable", house(), house(), dice.nextInt(3) == 0 ? n(9999) : n(9));
                break;
            case 17: case 18: case 19:
                call("tie", house(), house(), n(9));
                break;
            case 20:
                call("knock", house());
                break;
            case 21:
                call("comes", house(), dice.nextInt(3) == 0 ? 0 : 1);
                break;
            case 22:
                call("say", dice.nextInt(4) == 0 ? n(99999) : model.s.now + dice.nextInt(40) - 3);
                call("odds", house(), n(1000));
                break;
            case 23:
                call("item", house(), n(5), some(99999), some(9999));
                call("ends", dice.nextInt(4) == 0 ? n(99999) : model.s.now + dice.nextInt(70) - 5, some(999));
                break;
            case 24:
                call("turner", n(4), 1 + dice.nextInt(5), n(4), n(999));
                break;
            default:
                if (dice.nextInt(3) == 0) {
                    call("image", dice.nextInt(2) * n(3));
                } else if (dice.nextInt(2) == 0) {
                    call("back", dice.nextInt(2) * n(3));
                } else if (dice.nextInt(3) == 0) {
                    tell(goodRule());
                } else if (dice.nextInt(3) == 0) {
                    call("house", n(99), n(99), n(9));
                } else {
                    call("turner", n(4), n(20), n(20), n(999));
                }
        }
    }

    private void askOne() {
        switch (dice.nextInt(28)) {
            case 0: call("of", house(), n(9)); break;
            case 1: call("needs", n(Math.max(0, model.s.needs.size() - 1)), n(7)); break;
            case 2: call("harm", house()); break;
            case 3: call("gave", house(), house()); break;
            case 4: case 5: call("carried", n(Math.max(0, model.s.cables.size() - 1))); break;
            case 6: case 7: call("ahead", anyRule(), n(Math.max(0, model.s.needs.size() - 1))); break;
            case 8: call("total", anyRule(), n(60), n(2)); break;
            case 9: call("alone", anyRule(), n(60), n(2), house()); break;
            case 10: call("lost", anyRule(), n(60)); break;
            case 11: call("helps", anyRule(), n(20), n(1)); break;
            case 12: call("missed"); break;
            case 13: case 14: cook(); break;
            case 15: call("common", anyRule(), some(99999), n(10), n(1)); break;
            case 16: call("should", anyRule(), n(1)); break;
            case 17: call("reach", set()); break;
            case 18: case 19: call("doors", house(), set(), n(6) - 1); break;
            case 20: call("rows", n(6), n(6) - 1); break;
            case 21: call("owes", house(), house()); break;
            case 22: call("debtor"); break;
            case 23: call("noise", house()); break;
            case 24: call("loud"); break;
            case 25: call("knows", house(), n(1)); break;
            case 26: call("parts", n(1)); break;
            default: call("count", n(10));
        }
    }

    private void cook() {
        int house = house();
        boolean is = house >= 0 && house < model.s.houses.size();
        int cold = is && dice.nextInt(5) > 0 ? model.s.houses.get(house).store[1] : some(99998);
        call("cook", anyRule(), house, Math.max(1, cold - dice.nextInt(20)));
    }

    private void rule() {
        String text = dice.nextInt(8) == 0 ? rubbish() : anyRuleText();
        int spoils = dice.nextInt(4);
        StringBuilder b = new StringBuilder(text);
        for (int i = 0; i < spoils; i++) {
            int at = dice.nextInt(b.length() + 1);
            int to = Math.min(b.length(), at + dice.nextInt(3));
            b.replace(at, to, dice.nextInt(3) == 0 ? "" : PIECES[dice.nextInt(PIECES.length)]);
        }
        tell(b.length() > 400 ? b.substring(0, 400) : b.toString());
    }

    private String rubbish() {
        StringBuilder b = new StringBuilder();
        int many = dice.nextInt(20);
        for (int i = 0; i < many; i++) {
            b.append(dice.nextInt(20) == 0 ? String.valueOf((char) dice.nextInt(256)) : PIECES[dice.nextInt(PIECES.length)]);
        }
        return b.toString();
    }

    private String anyRuleText() {
        StringBuilder b = new StringBuilder();
        int clauses = dice.nextInt(6) == 0 ? 11 + dice.nextInt(3) : 1 + dice.nextInt(4);
        for (int i = 0; i < clauses; i++) {
            b.append(i > 0 ? ";" : "").append(blank());
            if (dice.nextInt(9) == 0) {
                b.append("hold ").append(dice.nextInt(3) == 0 ? dice.nextInt(12000) : dice.nextInt(6));
            } else {
                b.append(new String[] {"spoil ", "first ", "give "}[dice.nextInt(3)]);
                b.append(sum(clauses > 5 ? 0 : dice.nextInt(8) == 0 ? 61 : 4));
                if (dice.nextInt(2) == 0) {
                    b.append(" if ").append(test(clauses > 5 ? 0 : dice.nextInt(6) == 0 ? 12 : 3));
                }
            }
            b.append(blank());
        }
        return b.toString();
    }

    private String blank() {
        return dice.nextInt(3) == 0 ? " " : "";
    }

    /** A rule that can be read, by which something happens. */
    private String goodRule() {
        for (int tries = 0; tries < 200; tries++) {
            String text = anyRuleText();
            if (dice.nextInt(3) > 0) {
                text = "give " + sum(2) + ";" + text;
            }
            if (text.length() <= 400) {
                try {
                    new Model.Text(text).rule();
                    return text;
                } catch (Model.Fault f) {
                    continue;
                }
            }
        }
        return "give 5;first harm;spoil 1";
    }

    private String sum(int most) {
        StringBuilder b = new StringBuilder(value());
        int more = dice.nextInt(most + 1);
        for (int i = 0; i < more; i++) {
            b.append(blank()).append("++--*/".charAt(dice.nextInt(6))).append(blank()).append(value());
        }
        return b.toString();
    }

    private String value() {
        switch (dice.nextInt(6)) {
            case 0: return String.valueOf(dice.nextInt(100000));
            case 1: case 2: return String.valueOf(dice.nextInt(10));
            default: return Model.VALUES.get(dice.nextInt(Model.VALUES.size()));
        }
    }

    private String test(int deep) {
        StringBuilder b = new StringBuilder(fact(deep));
        while (dice.nextInt(3) == 0) {
            b.append(dice.nextBoolean() ? " and " : " or ").append(fact(deep));
        }
        return b.toString();
    }

    private String fact(int deep) {
        int kind = dice.nextInt(12);
        if (deep > 3 || deep > 0 && kind < 4) {
            return kind % 2 == 0 ? "not " + fact(deep - 1) : "[" + (deep > 3 ? fact(deep - 1) : test(deep - 1)) + "]";
        }
        return sum(1) + blank() + SIGNS[dice.nextInt(5)] + blank() + sum(1);
    }

    private void tell(String text) {
        calls.add("the text: " + text);
        for (int i = 0; i < text.length(); i += 20) {
            int[] five = new int[5];
            for (int k = 0; k < 20; k++) {
                int code = i + k < text.length() ? text.charAt(i + k) & 255 : 0;
                five[k / 4] = five[k / 4] << 8 | code;
            }
            call("feed", five);
        }
        call("end", text.length());
        call("rule");
    }
}
