import java.nio.charset.StandardCharsets;
import java.util.NoSuchElementException;

/**
 * The empty and the full: every call of an object to which nothing was told and of one that has the most of all; texts
 * of 700 bytes; what a shorter text leaves of a longer one ahead of it, which is nothing.
 */
final class EdgeFullTest {
    private static final Check CHECK = new Check("EdgeFullTest");
    private static final int MIN = Integer.MIN_VALUE;

    public static void main(String[] args) {
        empty();
        TwoLevel x = Check.told(full());
        fullNow(x);
        fullAhead(x);
        fullSearch(x);
        fullTold(x);
        fullDays(x);
        longTexts();
        cut();
        shorter();
        otherwise();
        CHECK.end();
    }

    private static int thrown(TwoLevel x, int kind, int twin) {
        try {
            x.amount(kind, twin);
            return 0;
        } catch (IndexOutOfBoundsException e) {
            return 1;
        } catch (NoSuchElementException e) {
            return 2;
        }
    }

    private static void row(String call, long[] got, long... due) {
        for (int i = 0; i < due.length; i++) {
            CHECK.due(call + " " + i, got[i], due[i]);
        }
    }

    private static void empty() {
        TwoLevel x = new TwoLevel();
        for (int round = 0; round < 2; round++) {
            row("nothing is told: what is asked of it", new long[] {x.fault(0), x.fault(1), x.named(0, 0), thrown(x, 0, 0),
                x.kind(0, 0), x.deed(0, 0), x.done(0, 0), x.twin(1, 0), x.twin(1, 1), x.twin(1, 2), x.apart(), x.law(0, 0, 0)},
                0, -1, -1, 1, -1, MIN, -1, 0, 0, 0, 0, Long.MIN_VALUE);
            row("nothing is told: what is done", new long[] {x.does(0, 0, true), x.exchange(0) ? 1 : 0, x.undo(), x.back(),
                x.note(0, 0, true), x.see(1, 0, 0, true), x.strike(0), x.known(1) ? 1 : 0, x.known(0) ? 1 : 0},
                -1, 0, -1, -1, -1, -1, -1, 0, 1);
            row("nothing is told: what comes", new long[] {x.ahead(200, 0, 0), x.ahead(200, 1, 0), x.ahead(200, 2, 0),
                x.ahead(200, 3, 0), x.ahead(200, 4, 0), x.nextLevel(), x.nextOut(), x.nearest(200, 0), x.nearest(200, 1),
                x.chance(0, 99, 0), x.tried(0, 0, 200), x.tried(2, 1, 200)}, 0, 200, 0, 0, 0, 0, -2, 0, 0, 10, 0, 0);
            row("nothing is told: what is found", new long[] {x.cheap(0), x.few(0), x.alone(0, 0), x.plan(1, 4, 3), x.plan(1, 4, 4),
                x.sign(), x.tells(), x.wanted(1), x.best(1), x.rests(), x.rest(0), x.rest(1), x.rest(2)},
                -1, -1, -1, -2, 0, -1, 0, 0, -2, 2, 0, 11, -2);
            row("nothing is told: what is likely", new long[] {x.sure(0, 0, 0), x.happier(), x.mean(0, 0, 1, 0), x.payers(0),
                x.healed(0), x.due(0), x.busiest(), x.who(), x.healings(0)}, -1, -2, MIN, -1, -1, 0, -2, 3, -1);
            for (int what = 0; what <= 11; what++) {
                CHECK.due("count(" + what + ") of nothing", x.count(what), 0);
            }
            // the same once a text was told and one without lines behind it
            Check.tell(x, full());
            x.known(0);
            CHECK.due("text(0)", x.text(0), 0);
        }
    }

    /** Six KINDS, of each both have something, eight DEEDS, twelve things to be done, 64 KNOTS. */
    private static String full() {
        StringBuilder t = new StringBuilder();
        for (int i = 0; i < 6; i++) {
            t.append("kind ").append((char) ('a' + i)).append(" 9 1;");
        }
        for (int i = 0; i < 6; i++) {
            t.append("has 0 ").append((char) ('a' + i)).append(' ').append(10 + i).append(';');
            t.append("has 1 ").append((char) ('a' + i)).append(" -").append(10 + i).append(';');
        }
        int[] bys = {1, 2, 3, 4, 5, 6, -5, -9};
        for (int i = 0; i < 8; i++) {
            t.append("deed ").append((char) ('s' + i)).append(' ').append((char) ('a' + Math.min(i, 5))).append(' ')
                .append(bys[i]).append(' ').append(i + 1).append(" 100;");
        }
        for (int i = 0; i < 12; i++) {
            t.append("do 0 z ").append(i / 11 * 99).append(';');
        }
        t.append("purse 0 99;purse 1 999;wage 0 9;wage 1 9;seed 9;law luck 99").append("+0".repeat(31)).append(";law heal 1;");
        return t.toString();
    }

    private static void fullNow(TwoLevel x) {
        row("the last ones of it", new long[] {x.named(0, 6 << 25), x.named(0, 7 << 25), x.named(1, 26 << 25), x.amount(5, 1),
            thrown(x, 6, 1), x.kind(5, 2), x.kind(6, 2), x.deed(7, 1), x.deed(8, 1), x.done(11, 2), x.done(12, 2)},
            5, -1, 7, -15, 1, 30, -1, -9, MIN, 99, -1);
        row("all of it", new long[] {x.twin(0, 2), x.twin(1, 2), x.apart(), x.sign(), x.tells(), x.wanted(0), x.wanted(1),
            x.happier(), x.rests(), x.rest(0), x.count(0), x.count(1), x.count(2), x.count(3)},
            75, -75, 150, 5, 63, 0, 63, 0, 1, 11, 6, 8, 12, 64);
        row("laws of it", new long[] {x.law(1, 5, 1), x.law(1, 6, 1), x.law(2, 7, 1), x.law(2, 8, 1), x.law(0, 5, 0)},
            1, Long.MIN_VALUE, 99, Long.MIN_VALUE, Long.MIN_VALUE);
        row("what is to be done", new long[] {x.due(0), x.due(1), x.busiest(), x.payers(7), x.payers(8), x.healed(5), x.healed(6),
            x.mean(5, 0, 1, 0), x.mean(5, 0, 99, 0), x.mean(6, 0, 99, 0), x.sure(7, 6, 0), x.sure(8, 6, 0)},
            96, 0, 0, 3, -1, 15, -1, -99, -99, MIN, 1, -1);
    }

    private static void fullAhead(TwoLevel x) {
        // DAY 0: eleven times -9 of f, at 8 each: 15 - 99 = -84, healed to -83; 14 of all others
        row("ahead", new long[] {x.ahead(1, 0, 0), x.ahead(1, 2, 0), x.ahead(1, 3, 0), x.ahead(1, 4, 0), x.ahead(100, 4, 0),
            x.nextLevel(), x.nextOut(), x.nearest(200, 1)}, 2 * (9 + 10 + 11 + 12 + 13) + 69, 20, 9 + 10 + 11 + 12 + 13 - 83, 11, 12,
            84, 0, 0);
        row("tried", new long[] {x.tried(0, 0, 1), x.tried(1, 0, 1), x.tried(2, 0, 1), x.tried(2, 1, 1), x.tried(3, 0, 1),
            x.tried(4, 0, 1)}, 2 * (10 + 11 + 12 + 13 + 14) + 69, 179, 138, 179, 179, 179);
        CHECK.due("chance", x.chance(1, 1, 179) >= 0, true);
    }

    private static void fullSearch(TwoLevel x) {
        // of f 30: 6 at 6 by TWIN 1, 5 at 7 and 9 at 8 by TWIN 0; 9 9 6 6; four times 9 and 6 back; five times 6
        row("searched", new long[] {x.cheap(0), x.cheap(1), x.few(1), x.cheap(4), x.cheap(5), x.few(5), x.alone(5, 0), x.alone(5, 1),
            x.cheap(6), x.few(6), x.alone(6, 0)}, 20, 22, 11, -2, 28, 4, 38, 30, -1, -1, -1);
        CHECK.due("best(0)", x.best(0), 7);
        CHECK.due("best(1)", x.best(1), 5);
        for (int day = 0; day < 4; day++) {
            // TWIN 0 will have less of f
            CHECK.due("plan(1, 4, " + day + ")", x.plan(1, 4, day), 7);
        }
    }

    private static void fullTold(TwoLevel x) {
        for (int i = 0; i < 24; i++) {
            CHECK.due("the " + i + "th", i < 12 ? x.note(5, 15, i % 2 == 0) : x.see(60, 5, 0, true), i);
        }
        row("what is told of it", new long[] {x.note(5, 0, true), x.see(1, 5, 0, true), x.strike(23), x.count(9), x.count(10)},
            -1, -1, -1, 24, 24);
        row("all KNOWN", new long[] {x.who(), x.healings(5), x.healings(6)}, 0, 1023, -1);
        row("KNOWN by one", new long[] {x.known(1) ? 1 : 0, x.who(), x.known(25) ? 1 : 0, x.who(), x.known(24) ? 1 : 0, x.who()},
            1, 1, 0, 1, 1, 0);
        TwoLevel y = Check.told(full());
        for (int i = 0; i < 23; i++) {
            y.note(5, 15, true);
        }
        CHECK.due("TWIN 0", y.who(), 1);
        CHECK.due("the last one", y.see(1, 5, 0, false), 23);
        CHECK.due("none", y.healings(5), 0);
        y.known(23);
        CHECK.due("all but the last one", y.healings(5), 1023);
    }

    private static void fullDays(TwoLevel x) {
        x.keep();
        for (int i = 0; i < 25; i++) {
            x.give(0, 99);
        }
        CHECK.due("count(11)", x.count(11), 20);
        CHECK.due("exchange(5)", x.exchange(5), true);
        CHECK.due("exchange(6)", x.exchange(6), false);
        CHECK.due("does(0, 7, true)", x.does(0, 7, true), 99 + 25 * 99 - 8);
        CHECK.due("does(0, 8, true)", x.does(0, 8, true), -1);
        CHECK.due("amount(5, 0)", x.amount(5, 0), -24);
        CHECK.due("go(100)", x.go(100), 100);
        CHECK.due("all done", x.count(6) + x.count(7) + x.count(8), 12);
        CHECK.due("none REFUSED", x.count(8), 0);
        CHECK.due("back()", x.back(), 0);
        CHECK.due("amount(5, 0)", x.amount(5, 0), 15);
        CHECK.due("PURSE", x.twin(0, 0), 99);
        CHECK.due("not done", x.done(11, 3), 0);
    }

    private static void tell(String text, int fault, int place) {
        TwoLevel x = new TwoLevel();
        int lines = Check.tell(x, text);
        CHECK.due("text of " + text.length(), lines < 0, fault > 0);
        CHECK.due("fault(0) of " + text.length(), x.fault(0), fault);
        CHECK.due("fault(1) of " + text.length(), x.fault(1), place);
    }

    /** 700 bytes that end in each sort of token. */
    private static void longTexts() {
        String blanks = " ".repeat(700);
        tell(blanks, 0, -1);
        tell(blanks.substring(7) + "seed 1;", 0, -1);
        tell(blanks.substring(6) + "seed 1", 1, 700);
        tell(blanks.substring(5) + "seed ", 1, 700);
        tell(blanks.substring(4) + "seed", 1, 700);
        tell(blanks.substring(7) + "purse 9", 2, 699);
        tell(blanks.substring(3) + "see", 1, 697);
        tell(blanks.substring(7) + "seconds", 1, 693);
        tell(blanks.substring(11) + "law luck 1<", 1, 700);
        tell(blanks.substring(12) + "law luck 1<=", 1, 700);
        tell(blanks.substring(12) + "law luck 1=<", 1, 699);
        tell(blanks.substring(12) + "law luck not", 1, 700);
        tell(blanks.substring(10) + "law luck (", 1, 700);
        tell(blanks.substring(1) + "?", 1, 699);
        tell("seed " + "0".repeat(694) + ";", 0, -1);
        tell("seed " + "9".repeat(694) + ";", 2, 5);
        tell("a".repeat(700), 1, 0);
        tell(";".repeat(700), 1, 0);
        tell("law luck " + "(".repeat(691), 2, 17);
        tell("law luck " + "+".repeat(691), 1, 9);
        tell("law luck " + "1+".repeat(345) + ";", 2, 9 + 64);
        tell("law luck " + "not ".repeat(63) + "1;", 0, -1);
        tell("law luck " + "not ".repeat(64) + "1;", 2, 9 + 256);
        TwoLevel x = Check.told("kind k 1 1;law apart " + "(".repeat(8) + "not ".repeat(62) + "7" + ")".repeat(8) + ";");
        CHECK.due("62 times not", x.law(0, 0, 0), 1);
        x = Check.told("kind k 1 1;law apart " + "not ".repeat(63) + "7;");
        CHECK.due("63 times not", x.law(0, 0, 0), 0);
        x = Check.told("kind k 1 1;law apart " + "1-(".repeat(8) + "3" + ")".repeat(8) + ";");
        CHECK.due("eight deep", x.law(0, 0, 0), 3);
        x = Check.told("kind k 1 1;law apart 0 or 1 and 2=3+4*(0 or 1 and 2=3+4*(0 or 1 and 14=2+3*(1 and 4)));");
        CHECK.due("each sign waits for the next", x.law(0, 0, 0), 0);
    }

    private static void cut(String text, int n, int fault, int place) {
        TwoLevel x = new TwoLevel();
        Check.feed(x, text.getBytes(StandardCharsets.ISO_8859_1));
        int lines = x.text(n);
        CHECK.due("text(" + n + ") of " + text, lines < 0, fault > 0);
        CHECK.due("fault(0) of " + n + " of " + text, x.fault(0), fault);
        CHECK.due("fault(1) of " + n + " of " + text, x.fault(1), place);
    }

    /** What stands behind the first n bytes doesn't count, in the midst of a word, of a number, of a sign either. */
    private static void cut() {
        cut("seeds 1;", 4, 1, 4);
        cut("seed 100000;", 10, 1, 10);
        cut("seed 100000;", 11, 2, 5);
        cut("seed 1;seed 1;", 7, 0, -1);
        cut("seed 1;seed 1;", 8, 1, 7);
        cut("seed 1;seed 1;", 11, 3, 7);
        cut("kind abcdefg 1 1;", 11, 1, 11);
        cut("kind abcdefg 1 1;", 12, 1, 5);
        cut("law luck 1<=2;", 11, 1, 11);
        cut("law luck 1<=2;", 12, 1, 12);
        cut("law luck 1<>2;", 11, 1, 11);
        cut("law luck 1;?", 11, 0, -1);
        cut("law luck 1;?", 12, 1, 11);
        cut("seed 1;", 0, 0, -1);
    }

    /** Behind texts that told all of it, faulty ones too, a short one has nothing but what it tells. */
    private static void shorter() {
        String[] ahead = {full(), full() + "?", full().substring(0, 300), "law luck ((1+(not ", "law luck 1+2*3 and", "seed 77;?"};
        for (String text : ahead) {
            for (int times = 1; times <= 2; times++) {
                TwoLevel x = new TwoLevel();
                for (int i = 0; i < times; i++) {
                    Check.tell(x, text);
                    x.known(0);
                    x.go(1);
                    x.keep();
                }
                String deeds = "kind a 2 3;deed d a 1 1 1;deed e a 1 0 1;do 0 d 0;do 1 e 0;do 1 e 0;";
                CHECK.due("a short text", Check.tell(x, deeds), 6);
                row("what it doesn't tell", new long[] {x.amount(0, 0), x.amount(0, 1), x.twin(0, 0), x.twin(1, 0), x.twin(0, 1),
                    x.twin(1, 1), x.count(0), x.count(1), x.count(2), x.count(3), x.count(4), x.count(5), x.count(6), x.count(7),
                    x.count(8), x.count(9), x.count(10), x.count(11), x.back()},
                    0, 0, 0, 0, 0, 0, 1, 2, 3, 0, 0, 0, 0, 0, 0, 0, 0, 0, -1);
                row("laws that it doesn't tell", new long[] {x.law(0, 0, 0), x.law(1, 0, 0), x.law(2, 0, 0)}, Long.MIN_VALUE,
                    Long.MIN_VALUE, Long.MIN_VALUE);
                x.go(1);
                row("its numbers are of seed 0", new long[] {x.done(0, 3), x.done(1, 3), x.done(2, 3), x.count(8)}, 3, 1, 2, 1);
                row("of its KIND alone", new long[] {x.sign(), x.busiest(), x.named(0, 6 << 25), x.named(1, 26 << 25), x.done(3, 0),
                    x.kind(1, 0), x.deed(2, 0)}, -2, -2, -1, -1, -1, -1, MIN);
                x.note(0, 99, true);
                CHECK.due("it is KNOWN", x.who(), 0);
                String law = "law luck " + "(".repeat(8) + "1" + "+1".repeat(29) + ")".repeat(8) + ";law apart 1+2*3;kind a 0 0;"
                        + "has 0 a 1;".repeat(12);
                CHECK.due("a text with laws", Check.tell(x, law), 15);
                row("its laws", new long[] {x.law(0, 0, 0), x.apart(), x.count(3), x.count(8)}, 7, 7, 64, 0);
            }
        }
    }

    /** What was taken otherwise for one question isn't for the next one. */
    private static void otherwise() {
        String text = "kind a 1 2;has 0 a 9;deed d a 4 3 10;do 1 d 0;do 1 d 1;purse 1 3;wage 1 3;seed 1;";
        TwoLevel x = Check.told(text);
        x.see(1, 0, 0, true);
        for (int what = 0; what <= 5; what++) {
            int due = x.ahead(2, 0, 0);
            CHECK.due("as it goes", due, 5);
            if (what < 5) {
                x.tried(what, what == 2 ? 1 : 0, 2);
            } else {
                x.healings(0);
            }
            CHECK.due("as it goes behind " + what, x.ahead(2, 0, 0), 5);
            CHECK.due("PURSE behind " + what, x.ahead(2, 2, 1), 3);
            CHECK.due("plan behind " + what, x.plan(0, 1, 4), 7);
            x.give(0, 1);
        }
        TwoLevel y = Check.told(text);
        for (int what = 0; what <= 5; what++) {
            TwoLevel z = Check.told(text);
            z.see(1, 0, 0, true);
            if (what < 5) {
                z.tried(what, what == 2 ? 1 : 0, 2);
            } else {
                z.healings(0);
            }
            if (what == 0) {
                y.go(2);
            }
            z.go(2);
            row("a DAY behind " + what, new long[] {z.amount(0, 0), z.amount(0, 1), z.twin(1, 0), z.done(0, 3), z.done(1, 3)},
                y.amount(0, 0), y.amount(0, 1), y.twin(1, 0), y.done(0, 3), y.done(1, 3));
        }
    }
}
