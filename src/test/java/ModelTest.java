import java.nio.charset.StandardCharsets;
import java.util.NoSuchElementException;
import java.util.Random;

/** Random runs of calls, the same ones on TwoLevel and on the Model: all answers are alike. */
final class ModelTest {
    private static final int RUNS = 600;
    private static final int CALLS = 460;
    private static final String[] NAMES = {"own", "other", "gap", "shows", "heals", "level", "day"};
    private static final String[] SIGNS = {"<", "<=", "=", "<>", ">=", ">", "+", "-", "*", "/", " and ", " or "};
    private static final String NOISE = ";;-()<>=+*/ \n\t,.A0129abz kind has deed do purse wage seed law";

    private final Random random;
    private final Check check;
    private TwoLevel x;
    private Model m;

    private ModelTest(long seed, Check check) {
        random = new Random(seed);
        this.check = check;
    }

    public static void main(String[] args) {
        Check check = new Check("ModelTest");
        for (int run = 0; run < RUNS; run++) {
            new ModelTest(run, check).run();
        }
        check.end();
    }

    private int below(int n) {
        return random.nextInt(n);
    }

    /** Mostly 0 .. most, now and then one beyond either end or far beyond. */
    private int about(int most) {
        int luck = below(40);
        if (luck == 0) {
            return -1;
        }
        if (luck == 1) {
            return most + 1;
        }
        if (luck == 2) {
            return random.nextInt();
        }
        return luck == 3 ? most : below(most + 1);
    }

    /** A number of what there are so many of; the Model tells, so that TwoLevel isn't called more often. */
    private int oneOf(int many) {
        return about(Math.max(0, many - 1));
    }

    private int kind() {
        return oneOf(m.count(0));
    }

    private int deed() {
        return oneOf(m.count(1));
    }

    private String value(int depth) {
        int luck = below(depth <= 0 ? 4 : 10);
        if (luck < 2) {
            return NAMES[below(NAMES.length)];
        }
        if (luck < 4) {
            int[] mosts = {3, 10, 100, 9999};
            return "" + below(mosts[below(4)] + 1);
        }
        if (luck == 4) {
            return "(" + (below(2) == 0 ? "not " : "") + value(depth - 1) + ")";
        }
        String value = value(depth - 1) + SIGNS[below(SIGNS.length)] + value(depth - 1);
        return luck < 8 ? "(" + value + ")" : value;
    }

    private String text() {
        StringBuilder t = new StringBuilder();
        int kinds = below(5) == 0 ? below(7) : 1 + below(3);
        int deeds = kinds == 0 ? 0 : below(4) == 0 ? below(9) : below(4);
        boolean isSmall = below(2) == 0;
        for (int k = 0; k < kinds; k++) {
            t.append("kind ").append((char) ('a' + k)).append(' ').append(below(10)).append(' ').append(below(10)).append(';');
        }
        for (int i = below(7); kinds > 0 && i > 0; i--) {
            t.append("has ").append(below(2)).append(' ').append((char) ('a' + below(kinds))).append(below(2) == 0 ? " -" : " ")
                .append(below(isSmall ? 12 : 100)).append(";\n");
        }
        for (int d = 0; d < deeds; d++) {
            t.append("deed ").append((char) ('a' + d)).append("b ").append((char) ('a' + below(kinds)))
                .append(below(2) == 0 ? " -" : " ").append(below(10)).append(' ').append(below(below(3) == 0 ? 100 : 9))
                .append(' ').append(below(101)).append(';');
        }
        for (int i = below(10); deeds > 0 && i > 0; i--) {
            t.append("do ").append(below(2)).append(' ').append((char) ('a' + below(deeds))).append("b ")
                .append(below(below(4) == 0 ? 100 : 6)).append(';');
        }
        for (int twin = 0; twin < 2; twin++) {
            if (below(4) != 0) {
                t.append("purse ").append(twin).append(' ').append(below(below(2) == 0 ? 1000 : 20)).append(';');
            }
            if (below(2) != 0) {
                t.append("wage ").append(twin).append(' ').append(below(10)).append(';');
            }
        }
        if (below(2) == 0) {
            t.append("seed ").append(below(100000)).append(';');
        }
        String[] laws = {"apart", "heal", "luck"};
        for (String law : laws) {
            if (below(2) == 0) {
                t.append("law ").append(law).append(' ').append(value(3)).append(';');
            }
        }
        return t.toString();
    }

    /** A text with something put in, taken away or told twice. */
    private String spoilt(String text) {
        StringBuilder t = new StringBuilder(text);
        for (int i = 1 + below(2); i > 0; i--) {
            int at = below(t.length() + 1);
            switch (below(4)) {
                case 0:
                    t.insert(at, NOISE.charAt(below(NOISE.length())));
                    break;
                case 1:
                    t.delete(at, Math.min(t.length(), at + 1 + below(4)));
                    break;
                case 2:
                    t.insert(t.indexOf(";", at) + 1, t.substring(0, t.indexOf(";") + 1));
                    break;
                default:
                    int from = t.lastIndexOf(";", at) + 1;
                    t.append(t.substring(Math.min(from, t.length())));
            }
        }
        return t.toString();
    }

    private void due(String call, long got, long want) {
        check.due(call, got, want);
    }

    private void tell(String text) {
        byte[] bytes = text.getBytes(StandardCharsets.ISO_8859_1);
        if (bytes.length > 700) {
            return;
        }
        for (int i = 0; i < bytes.length; i += 20) {
            int[] five = new int[5];
            for (int j = 0; j < 20; j++) {
                five[j / 4] = five[j / 4] << 8 | (i + j < bytes.length ? bytes[i + j] & 255 : 32);
            }
            due("feed", x.feed(five[0], five[1], five[2], five[3], five[4]), m.feed(five[0], five[1], five[2], five[3], five[4]));
        }
        due("text " + text, x.text(bytes.length), m.text(bytes.length));
        due("fault(0) of " + text, x.fault(0), m.fault(0));
        due("fault(1) of " + text, x.fault(1), m.fault(1));
    }

    private void run() {
        x = new TwoLevel();
        m = new Model();
        int calls = 0;
        while (calls < CALLS) {
            String text = text();
            if (below(4) == 0) {
                text = spoilt(text);
            }
            tell(text);
            calls += 40;
            for (int i = 20 + below(200); i > 0 && calls < CALLS; i--) {
                calls++;
                switch (below(4)) {
                    case 0: change(); break;
                    case 1: look(); break;
                    case 2: ask(); break;
                    default: search();
                }
            }
        }
    }

    private void change() {
        int a = about(1);
        int d = deed();
        int k = kind();
        int c = about(100);
        boolean is = random.nextBoolean();
        switch (below(18)) {
            case 0: case 1: case 10: case 11: case 12: due("does", x.does(a, d, is), m.does(a, d, is)); break;
            case 2: case 13: case 14: due("give", x.give(a, c), m.give(a, c)); break;
            case 3: case 15: due("exchange", x.exchange(k) ? 1 : 0, m.exchange(k) ? 1 : 0); break;
            case 4:
                int n = below(6) == 0 ? about(200) : below(4);
                due("go", x.go(n), m.go(n));
                break;
            case 5: case 6: case 9: due("undo", x.undo(), m.undo()); break;
            case 7: due("keep", x.keep(), m.keep()); break;
            case 8: due("back", x.back(), m.back()); break;
            default: due("does", x.does(a, d, true), m.does(a, d, true));
        }
    }

    private void look() {
        int k = kind();
        int d = deed();
        int b = about(3);
        int t = about(1);
        switch (below(12)) {
            case 0:
                int letters = below(9) == 0 ? random.nextInt() : below(2) == 0 ? k + 1 << 25 : d + 1 << 25 | 2 << 20;
                int of = about(1);
                due("named", x.named(of, letters), m.named(of, letters));
                break;
            case 1: due("amount", amount(true, k, t), amount(false, k, t)); break;
            case 2: due("kind", x.kind(k, b), m.kind(k, b)); break;
            case 3: due("deed", x.deed(d, b), m.deed(d, b)); break;
            case 4:
                int which = oneOf(m.count(2));
                due("done", x.done(which, b), m.done(which, b));
                break;
            case 5: due("twin", x.twin(t, b), m.twin(t, b)); break;
            case 6: due("apart", x.apart(), m.apart()); break;
            case 7:
                int law = about(2);
                int one = law == 2 ? d : k;
                due("law", x.law(law, one, t), m.law(law, one, t));
                break;
            case 8: due("fault", x.fault(b), m.fault(b)); break;
            case 9: due("due", x.due(t), m.due(t)); break;
            default:
                int what = about(11);
                due("count(" + what + ")", x.count(what), m.count(what));
        }
    }

    private long amount(boolean isX, int kind, int twin) {
        try {
            return isX ? x.amount(kind, twin) : m.amount(kind, twin);
        } catch (IndexOutOfBoundsException e) {
            return 1000000;
        } catch (NoSuchElementException e) {
            return 2000000;
        }
    }

    private void ask() {
        int k = kind();
        int d = deed();
        int t = about(1);
        boolean is = random.nextBoolean();
        switch (below(18)) {
            case 0: due("sign", x.sign(), m.sign()); break;
            case 1: due("tells", x.tells(), m.tells()); break;
            case 2: due("wanted", x.wanted(t), m.wanted(t)); break;
            case 3: due("best", x.best(t), m.best(t)); break;
            case 4: due("rests", x.rests(), m.rests()); break;
            case 5:
                int which = about(2);
                due("rest", x.rest(which), m.rest(which));
                break;
            case 6:
                int n = about(6);
                int w = about(1);
                due("sure", x.sure(d, n, w), m.sure(d, n, w));
                break;
            case 7: due("happier", x.happier(), m.happier()); break;
            case 8: due("payers", x.payers(d), m.payers(d)); break;
            case 9: due("healed", x.healed(k), m.healed(k)); break;
            case 10: due("busiest", x.busiest(), m.busiest()); break;
            case 11: case 12:
                int amount = below(9) == 0 ? about(1998) - 999 : about(40) - 20;
                due("note", x.note(k, amount, is), m.note(k, amount, is));
                break;
            case 13:
                int days = about(below(2) == 0 ? 60 : 6);
                int gap = below(5) == 0 ? about(999) : about(12);
                due("see", x.see(days, k, gap, is), m.see(days, k, gap, is));
                break;
            case 14: case 15:
                int told = oneOf(m.count(9));
                due("strike", x.strike(told), m.strike(told));
                break;
            case 16:
                int known = below(3) == 0 ? -1 : oneOf(m.count(9) + 1);
                due("known", x.known(known) ? 1 : 0, m.known(known) ? 1 : 0);
                break;
            default: due("who", x.who(), m.who());
        }
    }

    private void search() {
        int a = about(4);
        int k = kind();
        int t = about(1);
        int n = about(200);
        int few = about(20);
        switch (below(14)) {
            case 0: case 1: due("ahead", x.ahead(n, a, t), m.ahead(n, a, t)); break;
            case 2: due("nextLevel", x.nextLevel(), m.nextLevel()); break;
            case 3: due("nextOut", x.nextOut(), m.nextOut()); break;
            case 4: due("cheap", x.cheap(k), m.cheap(k)); break;
            case 5: due("few", x.few(k), m.few(k)); break;
            case 6: due("alone", x.alone(k, t), m.alone(k, t)); break;
            case 7:
                int days = below(20) == 0 ? about(4) : about(2);
                due("plan", x.plan(t, days, a), m.plan(t, days, a));
                due("plan", x.plan(t, days, 0), m.plan(t, days, 0));
                break;
            case 8:
                int what = about(1);
                due("mean", x.mean(k, t, few, what), m.mean(k, t, few, what));
                break;
            case 9: due("nearest", x.nearest(few, t), m.nearest(few, t)); break;
            case 10: due("healings", x.healings(k), m.healings(k)); break;
            case 11:
                int seed = below(4) == 0 ? random.nextInt() : about(Integer.MAX_VALUE - 1);
                int apart = below(6) == 0 ? about(9999) : m.ahead(few, 0, 0) + about(4) - 2;
                due("chance", x.chance(seed, few, apart), m.chance(seed, few, apart));
                break;
            default:
                int i = a == 2 || below(9) == 0 ? t : 0;
                due("tried", x.tried(a, i, few), m.tried(a, i, few));
        }
    }
}
