import java.io.IOException;

/** Part 2 of the terms, sentence by sentence: how far they are apart, a day, values of E, numbers. */
final class EdgeDayTest {
    private static final String KIND = "kind a 1 0;";
    /** 2 to the 32: as an int it would be 0. */
    private static final String LARGE = "256*256*256*256";

    private final Edges edges = new Edges("EdgeDayTest");

    private EdgeDayTest() throws IOException {
    }

    public static void main(String[] args) throws IOException {
        EdgeDayTest test = new EdgeDayTest();
        test.edges.terms(2);
        test.gaps();
        test.paid();
        test.drawn();
        test.off();
        test.refused();
        test.healed();
        test.wages();
        test.level();
        test.names();
        test.values();
        test.numbers();
        test.asItGoes();
        test.edges.end();
    }

    private static TwoLevel behind(String text, int days) {
        TwoLevel x = Check.told(text);
        x.go(days);
        return x;
    }

    private int apart(String text) {
        return Check.told(text).apart();
    }

    private void gaps() {
        edges.says("GAP of a KIND: how far the AMOUNTS of both are apart.");
        edges.due("99 and -99", Check.told(KIND + "has 0 a 99;has 1 a -99;").kind(0, 2), 198);
        edges.due("-99 and 99", Check.told(KIND + "has 0 a -99;has 1 a 99;").kind(0, 2), 198);
        edges.due("-3 and -5", Check.told(KIND + "has 0 a -3;has 1 a -5;").kind(0, 2), 2);
        edges.due("5 and 5", Check.told(KIND + "has 0 a 5;has 1 a 5;").kind(0, 2), 0);

        edges.says("APART: over all KINDS, E of apart (0 .. 9999; GAP without, with an ERROR) in sum;");
        edges.due("no KINDS", apart("law apart 5;"), 0);
        edges.due("one", apart(KIND + "law apart 5;"), 5);
        edges.due("six", apart("kind a 1 1;kind b 1 1;kind c 1 1;kind d 1 1;kind e 1 1;kind f 1 1;law apart 5;"), 30);
        edges.due("-1", apart(KIND + "law apart 0-1;"), 0);
        edges.due("0", apart(KIND + "has 0 a 3;law apart 0;"), 0);
        edges.due("1", apart(KIND + "law apart 1;"), 1);
        edges.due("9999", apart(KIND + "law apart 9999;"), 9999);
        edges.due("10000", apart(KIND + "law apart 9999+1;"), 9999);
        edges.due("far above", apart(KIND + "law apart " + LARGE + ";"), 9999);
        edges.due("far below", apart(KIND + "law apart 7-" + LARGE + ";"), 0);
        edges.due("9999 of each", apart("kind a 1 1;kind b 1 1;has 0 a 3;law apart 9998+gap;"), 19997);
        edges.due("0 of each", apart("kind a 1 1;kind b 1 1;has 0 a 3;law apart 2-gap;"), 2);
        edges.due("GAP without", apart("kind a 1 1;kind b 1 1;has 0 a 3;has 1 b 4;law heal 9;"), 7);
        edges.due("GAP with an ERROR", apart(KIND + "has 0 a 3;law apart 1/0;"), 3);
        edges.due("GAP of the one with an ERROR", apart("kind a 1 1;kind b 1 1;has 1 a 3;has 0 b 4;law apart 8/own;"), 5);

        edges.says("they are LEVEL, if all GAPS are 0.");
        edges.due("no KINDS", behind("", 1).count(5), 1);
        edges.due("all 0", behind("kind a 1 0;kind b 1 0;has 0 b 7;has 1 b 7;", 1).count(5), 1);
        edges.due("the last one 1", behind("kind a 1 0;kind b 1 0;has 0 b 7;has 1 b 8;", 1).count(5), 0);
        edges.due("the first one 1", behind("kind a 1 0;kind b 1 0;has 0 a 1;", 1).count(5), 0);
        edges.due("APART isn't looked at: 0", behind("kind a 1 0;has 0 a 1;law apart 0;", 1).count(5), 0);
        edges.due("APART isn't looked at: 5", behind("kind a 1 0;law apart 5;", 1).count(5), 1);
        edges.due("1 and -1", behind("kind a 1 0;kind b 1 0;has 0 a 1;has 1 b 1;", 1).count(5), 0);
    }

    private void paid() {
        edges.says("A DAY: (1) what is done on this DAY, by numbers: if PURSE has COST, it is paid;");
        String deed = KIND + "deed d a 1 5 100;";
        TwoLevel x = behind(deed + "do 0 d 0;purse 0 5;", 1);
        edges.due("COST 5 of 5", x.done(0, 3), 1);
        edges.due("PURSE", x.twin(0, 0), 0);
        x = behind(deed + "do 0 d 0;purse 0 4;purse 1 9;", 1);
        edges.due("COST 5 of 4", x.done(0, 3), 3);
        edges.due("PURSE", x.twin(0, 0), 4);
        edges.due("PURSE of the other", x.twin(1, 0), 9);
        edges.due("COST 0 of 0", behind(KIND + "deed d a 1 0 100;do 0 d 0;", 1).done(0, 3), 1);
        x = behind(deed + "do 0 d 1;do 0 d 0;do 0 d 99;purse 0 15;", 1);
        edges.due("DAY 1 on DAY 0", x.done(0, 3), 0);
        edges.due("DAY 0", x.done(1, 3), 1);
        x.go(1);
        edges.due("DAY 1", x.done(0, 3), 1);
        x.go(97);
        edges.due("DAY 99 on DAY 98", x.done(2, 3), 0);
        x.go(1);
        edges.due("DAY 99", x.done(2, 3), 1);
        x.go(200);
        edges.due("none is done again", x.amount(0, 0), 3);
        x = behind(KIND + "deed d a 1 5 100;deed e a 1 3 100;do 0 e 0;do 0 d 0;purse 0 5;", 1);
        edges.due("the first told is paid", x.done(0, 3), 1);
        edges.due("the second is refused", x.done(1, 3), 3);
        edges.due("what is left", x.twin(0, 0), 2);
    }

    private void drawn() {
        edges.says("a number modulo 100 (no number, if E is 0 or 100): below E of luck (0 .. 100; ODDS without, with an ERROR)"
                + " it comes OFF:");
        // of seed 0 the numbers are 0, 68, 88, 17
        String odds = KIND + "deed no a 1 0 0;deed one a 1 0 1;deed less a 1 0 68;deed more a 1 0 69;deed most a 1 0 99;"
                + "deed sure a 1 0 100;";
        outcomes(odds + "do 0 one 0;do 0 less 0;", 1, 2);
        outcomes(odds + "do 0 one 0;do 0 more 0;", 1, 1);
        outcomes(odds + "do 0 most 0;do 0 less 0;do 0 most 0;", 1, 2, 1);
        outcomes(odds + "do 0 no 0;do 0 one 0;do 0 one 0;", 2, 1, 2);
        outcomes(odds + "do 0 sure 0;do 0 one 0;do 0 one 0;", 1, 1, 2);
        String one = KIND + "deed no a 1 0 0;deed one a 1 0 1;deed sure a 1 0 100;";
        outcomes(one + "do 0 one 0;do 0 one 0;law luck 68+(own=0)-1;", 1, 2);
        outcomes(one + "do 0 one 0;do 0 one 0;law luck 69;", 1, 1);
        // own is 0, then 1: E is below 0 or above 100 first, 1 then
        outcomes(one + "do 0 sure 0;do 0 one 0;law luck 0-1;", 2, 2);
        outcomes(one + "do 1 no 0;do 0 one 0;do 0 one 0;law luck 1-2*other;", 1, 2, 2);
        outcomes(one + "has 0 a 1;has 1 a 1;do 0 no 0;do 0 one 0;law luck 101;", 1, 1);
        outcomes(one + "do 0 no 0;do 0 one 0;do 0 one 0;law luck (own=0)*100+1;", 1, 1, 2);
        outcomes(one + "do 0 no 0;do 0 one 0;do 0 one 0;law luck (own=0)*" + LARGE + "+1;", 1, 1, 2);
        outcomes(one + "do 0 no 0;do 0 one 0;law luck 68-" + LARGE + ";", 2, 2);
        outcomes(one + "do 0 no 0;do 0 one 0;do 0 one 0;do 0 sure 0;law luck 1/0;", 2, 1, 2, 1);
        outcomes(one + "do 0 no 0;do 0 one 0;do 0 one 0;do 0 sure 0;law heal 0;", 2, 1, 2, 1);
        // 0 took none by law either: own 5 is 0, own 0 of the other is 1
        outcomes(one + "has 0 a 5;do 0 sure 0;do 1 one 0;do 1 one 0;law luck own=0;", 2, 1, 2);
    }

    private void outcomes(String text, int... due) {
        TwoLevel x = behind(text, 1);
        for (int i = 0; i < due.length; i++) {
            edges.due("done(" + i + ", 3) of " + text, x.done(i, 3), due[i]);
        }
    }

    /** A KIND of which the first TWIN has so much by call, and does a DEED on the first DAY. */
    private int reached(int amount, String by) {
        int sign = amount < 0 ? -1 : 1;
        TwoLevel x = Check.told(KIND + "has 0 a " + 99 * sign + ";deed nine a " + 9 * sign + " 0 0;deed one a " + sign
                + " 0 0;deed d a " + by + " 0 100;do 0 d 0;");
        for (int i = 0; i < (Math.abs(amount) - 99) / 9; i++) {
            x.does(0, 0, true);
        }
        for (int i = 0; i < Math.abs(amount) % 9; i++) {
            x.does(0, 1, true);
        }
        edges.due("ahead of it", x.amount(0, 0), amount);
        x.go(1);
        edges.due("it came OFF", x.done(0, 3), 1);
        return x.amount(0, 0);
    }

    private void off() {
        edges.says("the AMOUNT of that TWIN is more by BY (-999 .. 999); else it is IN VAIN.");
        edges.due("989 and 9", reached(989, "9"), 998);
        edges.due("990 and 9", reached(990, "9"), 999);
        edges.due("991 and 9", reached(991, "9"), 999);
        edges.due("999 and 1", reached(999, "1"), 999);
        edges.due("999 and -1", reached(999, "-1"), 998);
        edges.due("-989 and -9", reached(-989, "-9"), -998);
        edges.due("-990 and -9", reached(-990, "-9"), -999);
        edges.due("-991 and -9", reached(-991, "-9"), -999);
        edges.due("-999 and -1", reached(-999, "-1"), -999);
        edges.due("-999 and 1", reached(-999, "1"), -998);
        TwoLevel x = behind("kind a 1 0;kind b 1 0;deed d b 3 2 100;deed e b 5 2 0;do 1 d 0;do 1 e 0;purse 1 5;", 1);
        edges.due("of that TWIN", x.amount(1, 1), 3);
        edges.due("not of the other", x.amount(1, 0), 0);
        edges.due("not of another KIND", x.amount(0, 1), 0);
        edges.due("OFF", x.done(0, 3), 1);
        edges.due("IN VAIN", x.done(1, 3), 2);
        edges.due("IN VAIN is paid", x.twin(1, 0), 1);
    }

    private void refused() {
        edges.says("If PURSE hasn't it, it is REFUSED.");
        TwoLevel x = behind(KIND + "deed d a 1 5 50;deed e a 1 0 1;do 0 d 0;do 0 e 0;do 0 e 0;do 1 d 0;purse 0 4;purse 1 5;", 1);
        edges.due("REFUSED", x.done(0, 3), 3);
        edges.due("it took no number", x.done(1, 3), 1);
        edges.due("68 isn't below 1", x.done(2, 3), 2);
        edges.due("88 isn't below 50", x.done(3, 3), 2);
        edges.due("its PURSE stays", x.twin(0, 0), 4);
        edges.due("its AMOUNT stays", x.amount(0, 0), 1);
        edges.due("count(8)", x.count(8), 1);
        x.give(0, 9);
        x.go(3);
        edges.due("it isn't done later", x.done(0, 3), 3);
        edges.due("its AMOUNT stays", x.amount(0, 0), 1);
    }

    private int healed(int amount, int heals, String law) {
        return behind("kind a 1 " + heals + ";has 1 a " + amount + ";" + law, 1).amount(0, 1);
    }

    private void healed() {
        edges.says("(2) by KINDS, of TWIN 0, then of 1: the AMOUNT comes nearer to 0 by E of heal (0 .. 9; HEALS without, with an"
                + " ERROR), no farther than to 0.");
        edges.due("20 by 9", healed(20, 9, ""), 11);
        edges.due("-20 by 9", healed(-20, 9, ""), -11);
        edges.due("20 by 0", healed(20, 0, ""), 20);
        edges.due("4 by 3", healed(4, 3, ""), 1);
        edges.due("3 by 3", healed(3, 3, ""), 0);
        edges.due("2 by 3", healed(2, 3, ""), 0);
        edges.due("-4 by 3", healed(-4, 3, ""), -1);
        edges.due("-3 by 3", healed(-3, 3, ""), 0);
        edges.due("-2 by 3", healed(-2, 3, ""), 0);
        edges.due("0 by 3", healed(0, 3, ""), 0);
        edges.due("E -1", healed(20, 3, "law heal 0-1;"), 20);
        edges.due("E 0", healed(20, 3, "law heal 0;"), 20);
        edges.due("E 1", healed(20, 3, "law heal 1;"), 19);
        edges.due("E 9", healed(20, 3, "law heal 9;"), 11);
        edges.due("E 10", healed(20, 3, "law heal 10;"), 11);
        edges.due("E far above", healed(20, 3, "law heal " + LARGE + ";"), 11);
        edges.due("E far below", healed(20, 3, "law heal 5-" + LARGE + ";"), 20);
        edges.due("HEALS with an ERROR", healed(20, 3, "law heal 1/0;"), 17);
        edges.due("HEALS without", healed(20, 3, "law luck 9;law apart 9;"), 17);
        TwoLevel x = behind("kind a 1 2;kind b 1 3;has 0 a 9;has 1 a -9;has 0 b -9;has 1 b 9;", 1);
        edges.due("KIND 0 of TWIN 0", x.amount(0, 0), 7);
        edges.due("KIND 0 of TWIN 1", x.amount(0, 1), -7);
        edges.due("KIND 1 of TWIN 0", x.amount(1, 0), -6);
        edges.due("KIND 1 of TWIN 1", x.amount(1, 1), 6);
        x = behind("kind a 1 0;has 0 a 5;has 1 a 5;law heal other;", 1);
        edges.due("of TWIN 0 by 5", x.amount(0, 0), 0);
        edges.due("then of 1 by 0", x.amount(0, 1), 5);
        edges.due("behind (1)", behind("kind a 1 9;deed d a 4 0 100;do 0 d 0;", 1).amount(0, 0), 0);
    }

    /** Of TWIN 1, by gifts, then behind a DAY. */
    private int waged(int purse, int wage) {
        TwoLevel x = Check.told("purse 1 999;wage 1 " + wage + ";");
        for (int has = 999; has < purse; has = Math.min(purse, has + 99)) {
            x.give(1, Math.min(99, purse - has));
        }
        edges.due("ahead of it", x.twin(1, 0), purse);
        x.go(1);
        return x.twin(1, 0);
    }

    private void wages() {
        edges.says("(3) each has WAGE more, 9999 at most.");
        edges.due("9989 and 9", waged(9989, 9), 9998);
        edges.due("9990 and 9", waged(9990, 9), 9999);
        edges.due("9991 and 9", waged(9991, 9), 9999);
        edges.due("9999 and 9", waged(9999, 9), 9999);
        edges.due("9999 and 0", waged(9999, 0), 9999);
        edges.due("999 and 1", waged(999, 1), 1000);
        edges.due("999 and 0", waged(999, 0), 999);
        TwoLevel x = behind("purse 1 3;wage 0 4;wage 1 5;", 2);
        edges.due("of TWIN 0", x.twin(0, 0), 8);
        edges.due("of TWIN 1", x.twin(1, 0), 13);
        x = behind(KIND + "deed d a 1 4 100;do 0 d 0;wage 0 4;", 1);
        edges.due("behind (1)", x.done(0, 3), 3);
    }

    private void level() {
        edges.says("(4) if they are LEVEL, they were so one DAY more. Then it is the next DAY.");
        TwoLevel x = Check.told("kind a 1 1;has 0 a 2;deed d a 3 0 100;do 1 d 3;");
        int[] due = {0, 0, 1, 2, 2, 2, 3};
        for (int day = 0; day < due.length; day++) {
            edges.due("the DAY", x.count(4), day);
            edges.due("LEVEL by DAY " + day, x.count(5), due[day]);
            x.go(1);
        }
        x = Check.told("kind a 1 0;deed d a 3 0 100;do 1 d 0;");
        edges.due("LEVEL ahead of it", x.nextLevel(), 0);
        x.go(1);
        edges.due("out behind it", x.count(5), 0);
    }

    private void value(String e, long due) {
        TwoLevel x = edges.fine("kind k 4 2;has 0 k 7;has 1 k -3;law apart " + e + ";", 4);
        edges.due("the value of " + e, x.law(0, 0, 0), due);
    }

    private void names() {
        edges.says("NAMES: own: the AMOUNT (of apart TWIN 0's; of luck who does it); other: that of the other TWIN; gap: GAP;"
                + " shows, heals: SHOWS, HEALS of the KIND; level: how many DAYS they were LEVEL; day: the DAY.");
        String text = "kind k 1 2;kind l 3 4;has 0 k 10;has 1 k -20;has 0 l 30;has 1 l 39;deed d l 1 0 0;deed e k 1 0 0;";
        String[] names = {"own", "other", "gap", "shows", "heals", "level", "day"};
        long[][] apart = {{10, 30}, {-20, 39}, {30, 9}, {1, 3}, {2, 4}, {0, 0}, {0, 0}};
        for (int i = 0; i < names.length; i++) {
            TwoLevel x = Check.told(text + "law apart " + names[i] + ";law heal " + names[i] + ";law luck " + names[i] + ";");
            long[] second = i == 0 ? apart[1] : i == 1 ? apart[0] : apart[i];
            for (int kind = 0; kind < 2; kind++) {
                edges.due("apart of " + names[i] + " of KIND " + kind, x.law(0, kind, 1), apart[i][kind]);
                edges.due("heal of TWIN 0, " + names[i] + " of KIND " + kind, x.law(1, kind, 0), apart[i][kind]);
                edges.due("heal of TWIN 1, " + names[i] + " of KIND " + kind, x.law(1, kind, 1), second[kind]);
                edges.due("luck of TWIN 0, " + names[i] + " of DEED " + (1 - kind), x.law(2, 1 - kind, 0), apart[i][kind]);
                edges.due("luck of TWIN 1, " + names[i] + " of DEED " + (1 - kind), x.law(2, 1 - kind, 1), second[kind]);
            }
        }
        TwoLevel x = Check.told("kind k 0 1;has 0 k 2;law apart 1000*level+day;");
        x.go(7);
        edges.due("LEVEL on 6 of 7 DAYS", x.law(0, 0, 0), 6007);
        edges.due("APART", x.apart(), 6007);
        // who does it: TWIN 1 has 5
        x = behind("kind k 0 0;has 1 k 5;deed d k 0 0 50;do 0 d 0;do 1 d 0;law luck (own=5)*100;", 1);
        edges.due("TWIN 0 has 0", x.done(0, 3), 2);
        edges.due("TWIN 1 has 5", x.done(1, 3), 1);
    }

    private void values() {
        edges.says("VALUES are longs; comparisons, and, or, not are 1 or 0 (what isn't 0 is as 1, both sides are worked out), / is"
                + " cut towards 0;");
        value(LARGE, 1L << 32);
        value(LARGE + " and 1", 1);
        value("not (" + LARGE + ")", 0);
        value("1-" + LARGE + " or 0", 1);
        value("other and other", 1);
        value("other or 0", 1);
        value("not other", 0);
        value("not 0", 1);
        value("not 9", 0);
        value("0 or 0", 0);
        value("0 and 9", 0);
        value("9 and 0", 0);
        value("5 < 5", 0);
        value("4 < 5", 1);
        value("5 <= 5", 1);
        value("6 <= 5", 0);
        value("5 = 5", 1);
        value("5 = 6", 0);
        value("5 <> 5", 0);
        value("5 <> 6", 1);
        value("5 >= 5", 1);
        value("4 >= 5", 0);
        value("5 > 5", 0);
        value("6 > 5", 1);
        value("other < 0", 1);
        value("other > 0", 0);
        value("(5 > 4) + (5 >= 5) + (not 0)", 3);
        value("0 and 1/0", Long.MIN_VALUE);
        value("1 or 1/0", Long.MIN_VALUE);
        value("1/0 and 0", Long.MIN_VALUE);
        value("1/0 or 1", Long.MIN_VALUE);
        value("7/2", 3);
        value("other/2", -1);
        value("7/(0-2)", -3);
        value("other/(0-2)", 1);
        value("1/2", 0);
        value("(0-1)/2", 0);

        edges.says("ERROR: / by 0, a value above 10 to the 12 or below 0 by more than that.");
        String most = "(1000*1000*1000*1000)";
        value("1/0", Long.MIN_VALUE);
        value("0/0", Long.MIN_VALUE);
        value("0/1", 0);
        value("1/(own-7)", Long.MIN_VALUE);
        value("not (1/0)", Long.MIN_VALUE);
        value("1/0 = 1/0", Long.MIN_VALUE);
        value("0*(1/0)", Long.MIN_VALUE);
        value(most, 1000000000000L);
        value("0-" + most, -1000000000000L);
        value(most + "+1", Long.MIN_VALUE);
        value("0-" + most + "-1", Long.MIN_VALUE);
        value(most + "-1", 999999999999L);
        value("1-" + most, -999999999999L);
        value(most + "+1-1", Long.MIN_VALUE);
        value(most + "*1", 1000000000000L);
        value(most + "*2", Long.MIN_VALUE);
        value(most + "*(0-1)", -1000000000000L);
        value(most + "*(0-2)", Long.MIN_VALUE);
        value("(0-1)*" + most, -1000000000000L);
        value(most + "*" + most, Long.MIN_VALUE);
        value("0*" + most, 0);
        value(most + "*0", 0);
        value("(" + LARGE + ")*(" + LARGE + ")", Long.MIN_VALUE);
        value("(" + LARGE + ")*(" + LARGE + "/2)", Long.MIN_VALUE);
        value(most + "+1 > 0", Long.MIN_VALUE);
        value("1 or " + most + "+1", Long.MIN_VALUE);
        value("1000*1000*1000*999+1000*1000*1000", 1000000000000L);
        value("9999/0", Long.MIN_VALUE);
    }

    private void numbers() {
        edges.says("Numbers are the last one (at first the seed) times 1103515245 and 12345, without what is above 31 bits, by"
                + " 65536.");
        int[] seeds = {0, 1, 2, 77, 12345, 65535, 65536, 99999};
        int[] odds = {50, 1, 99, 37, 63, 12, 88, 25, 75, 50, 45, 55};
        for (int seed : seeds) {
            StringBuilder text = new StringBuilder(KIND + "seed " + seed + ";deed dd a 0 0 50;law luck 2*day+7*own+1;");
            StringBuilder plain = new StringBuilder(KIND + "seed " + seed + ";");
            for (int i = 0; i < 8; i++) {
                plain.append("deed ").append((char) ('s' + i)).append(" a 0 0 ").append(odds[i]).append(';');
            }
            for (int i = 0; i < 12; i++) {
                text.append("do 0 dd ").append(8 * i).append(';');
                plain.append("do ").append(i % 2).append(' ').append((char) ('s' + i % 8)).append(' ').append(i / 2).append(';');
            }
            TwoLevel x = behind(text.toString(), 89);
            TwoLevel y = behind(plain.toString(), 6);
            for (int i = 0; i < 12; i++) {
                int number = Edges.number(seed, i);
                edges.due("by law, number " + i + " of seed " + seed, x.done(i, 3), number < 16 * i + 1 ? 1 : 2);
                edges.due("by ODDS, number " + i + " of seed " + seed, y.done(i, 3), number < odds[i % 8] ? 1 : 2);
            }
        }
    }

    private void asItGoes() {
        edges.says("AS IT GOES: without numbers: it comes OFF, if E of luck is 50 at least.");
        String deed = KIND + "deed d a 1 0 ";
        edges.due("ODDS 50", Check.told(deed + "50;do 0 d 0;").ahead(1, 4, 0), 1);
        edges.due("ODDS 49", Check.told(deed + "49;do 0 d 0;").ahead(1, 4, 0), 0);
        edges.due("ODDS 0", Check.told(deed + "0;do 0 d 0;").ahead(1, 4, 0), 0);
        edges.due("ODDS 100", Check.told(deed + "100;do 0 d 0;").ahead(1, 4, 0), 1);
        edges.due("E 50", Check.told(deed + "0;do 0 d 0;law luck 50;").ahead(1, 4, 0), 1);
        edges.due("E 49", Check.told(deed + "100;do 0 d 0;law luck 49;").ahead(1, 4, 0), 0);
        edges.due("E above 100", Check.told(deed + "0;do 0 d 0;law luck " + LARGE + ";").ahead(1, 4, 0), 1);
        edges.due("E below 0", Check.told(deed + "100;do 0 d 0;law luck 99-" + LARGE + ";").ahead(1, 4, 0), 0);
        edges.due("ODDS 50 with an ERROR", Check.told(deed + "50;do 0 d 0;law luck 1/0;").ahead(1, 4, 0), 1);
        edges.due("ODDS 49 with an ERROR", Check.told(deed + "49;do 0 d 0;law luck 1/0;").ahead(1, 4, 0), 0);
        // the first number of seed 0 is still to be drawn behind it
        TwoLevel x = Check.told(deed + "1;do 0 d 0;do 0 d 0;");
        edges.due("ahead", x.ahead(5, 4, 0), 0);
        x.go(1);
        edges.due("number 0", x.done(0, 3), 1);
        edges.due("number 68", x.done(1, 3), 2);

        edges.says("HAPPY of a TWIN: its AMOUNTS in sum.");
        edges.due("no KINDS", new TwoLevel().twin(0, 2), 0);
        x = Check.told("kind a 1 0;kind b 1 0;kind c 1 0;kind d 1 0;kind e 1 0;kind f 1 0;has 0 a 99;has 0 b -9;has 0 f 5;"
                + "has 1 a -99;has 1 f -98;");
        edges.due("of TWIN 0", x.twin(0, 2), 95);
        edges.due("of TWIN 1", x.twin(1, 2), -197);
    }
}
