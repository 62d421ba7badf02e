import java.io.IOException;

/** Part 3 of the terms, sentence by sentence, up to the game: what comes, and what is to be done. */
final class EdgeAheadTest {
    private static final String KIND = "kind a 1 0;";

    private final Edges edges = new Edges("EdgeAheadTest");

    private EdgeAheadTest() throws IOException {
    }

    public static void main(String[] args) throws IOException {
        EdgeAheadTest test = new EdgeAheadTest();
        test.edges.terms(3);
        test.ahead();
        test.next();
        test.cheap();
        test.few();
        test.plan();
        test.planFirst();
        test.mean();
        test.nearest();
        test.looks();
        test.best();
        test.game();
        test.sure();
        test.notes();
        test.sights();
        test.strikes();
        test.known();
        test.who();
        test.healings();
        test.tried();
        test.edges.end();
    }

    private void ahead() {
        edges.says("AHEAD for n DAYS as it goes: APART then, how many DAYS more they are LEVEL, PURSE, HAPPY of a TWIN then, how"
                + " many DEEDS more come OFF.");
        String text = "kind a 1 1;kind b 1 0;has 0 a 3;deed d b 2 3 50;deed e b 2 0 49;do 1 d 1;do 1 e 1;do 0 d 3;do 1 d 3;"
                + "purse 0 2;purse 1 3;wage 0 1;";
        // DAY 0: a 2, b 0 0; 1: a 1, b 0 2 (d OFF, e IN VAIN); 2: a 0; 3: b 2 2 (d of TWIN 0 paid by wages; of 1 REFUSED)
        int[] apart = {3, 2, 3, 2, 0, 0};
        int[] level = {0, 0, 0, 0, 1, 2};
        int[] first = {2, 3, 4, 5, 3, 4};
        int[] second = {3, 3, 0, 0, 0, 0};
        int[] firstHappy = {3, 2, 1, 0, 2, 2};
        int[] secondHappy = {0, 0, 2, 2, 2, 2};
        int[] off = {0, 0, 1, 1, 2, 2};
        TwoLevel x = Check.told(text);
        String before = Edges.seen(x);
        for (int n = 0; n < apart.length; n++) {
            edges.due("APART behind " + n, x.ahead(n, 0, 0), apart[n]);
            edges.due("LEVEL behind " + n, x.ahead(n, 1, 0), level[n]);
            edges.due("PURSE of 0 behind " + n, x.ahead(n, 2, 0), first[n]);
            edges.due("PURSE of 1 behind " + n, x.ahead(n, 2, 1), second[n]);
            edges.due("HAPPY of 0 behind " + n, x.ahead(n, 3, 0), firstHappy[n]);
            edges.due("HAPPY of 1 behind " + n, x.ahead(n, 3, 1), secondHappy[n]);
            edges.due("OFF behind " + n, x.ahead(n, 4, 0), off[n]);
        }
        edges.same("what is seen", Edges.seen(x), before);
        x = Check.told("kind a 1 0;deed d a 0 0 100;do 0 d 0;do 0 d 4;");
        x.go(3);
        edges.due("LEVEL more", x.ahead(2, 1, 0), 2);
        edges.due("OFF more", x.ahead(1, 4, 0), 0);
        edges.due("OFF more", x.ahead(2, 4, 0), 1);
        edges.due("LEVEL more of none", x.ahead(0, 1, 0), 0);
    }

    private void next() {
        edges.says("NEXT LEVEL: in how many DAYS as it goes, 199 at most, they are LEVEL (0: now).");
        edges.due("no KINDS", new TwoLevel().nextLevel(), 0);
        edges.due("now", Check.told(KIND).nextLevel(), 0);
        edges.due("in 1", Check.told("kind a 1 1;has 0 a 1;").nextLevel(), 1);
        edges.due("in 99", Check.told("kind a 1 1;has 0 a 99;").nextLevel(), 99);
        String late = "kind a 1 0;has 0 a 1;law heal day=";
        edges.due("in 198", Check.told(late + "197;").nextLevel(), 198);
        edges.due("in 199", Check.told(late + "198;").nextLevel(), 199);
        edges.due("in 200", Check.told(late + "199;").nextLevel(), -2);
        TwoLevel x = Check.told(late + "199;");
        x.go(1);
        edges.due("in 199 from the DAY on", x.nextLevel(), 199);
        edges.due("by ODDS 50", Check.told("kind a 1 0;has 0 a 1;deed d a 1 0 50;do 1 d 2;").nextLevel(), 3);
        edges.due("by ODDS 49", Check.told("kind a 1 0;has 0 a 1;deed d a 1 0 49;do 1 d 2;").nextLevel(), -2);
        edges.due("all KINDS", Check.told("kind a 1 0;kind b 1 1;has 0 a 1;has 0 b 2;").nextLevel(), -2);

        edges.says("NEXT OUT: likewise in how many they aren't.");
        edges.due("no KINDS", new TwoLevel().nextOut(), -2);
        edges.due("now", Check.told(KIND + "has 1 a -1;").nextOut(), 0);
        edges.due("never", Check.told(KIND).nextOut(), -2);
        edges.due("in 1", Check.told(KIND + "deed d a 1 0 50;do 1 d 0;").nextOut(), 1);
        edges.due("by ODDS 49", Check.told(KIND + "deed d a 1 0 49;do 1 d 0;").nextOut(), -2);
        // on that DAY TWIN 0 heals, by which TWIN 1 does not
        late = "kind a 1 0;has 0 a 5;has 1 a 5;law heal gap=0 and day=";
        edges.due("in 198", Check.told(late + "197;").nextOut(), 198);
        edges.due("in 199", Check.told(late + "198;").nextOut(), 199);
        edges.due("in 200", Check.told(late + "199;").nextOut(), -2);
        x = Check.told(late + "199;");
        x.go(1);
        edges.due("in 199 from the DAY on", x.nextOut(), 199);
    }

    /** TWIN 0 has so much more, by calls of DEEDS 0 and 1 that bring one more and one less. */
    private static TwoLevel more(int more, String deeds) {
        boolean isFirst = more >= 0;
        int half = Math.min(99, Math.abs(more));
        int rest = Math.min(99, Math.abs(more) - half);
        TwoLevel x = Check.told(KIND + "has " + (isFirst ? 0 : 1) + " a " + half + ";has " + (isFirst ? 1 : 0) + " a -" + rest
                + ";deed up a 1 0 0;deed down a -1 0 0;" + deeds);
        for (int i = half + rest; i < Math.abs(more); i++) {
            x.does(0, isFirst ? 0 : 1, true);
        }
        return x;
    }

    private void cheap() {
        edges.says("CHEAP of a KIND: the least COST in sum of DEEDS of that KIND, done by either for sure, as often as one likes,"
                + " one behind another, by which its GAP is 0; what TWIN 0 has more than TWIN 1 stays from -200 to 200 meanwhile"
                + " (bounds of AMOUNTS aren't looked at).");
        int[] mores = {0, 1, -1, 198, -198, 199, -199, 200, -200, 201, -201, 202, -202};
        for (int more : mores) {
            TwoLevel x = more(more, "");
            edges.due("GAP", x.kind(0, 2), Math.abs(more));
            edges.due("cheap(0) of " + more, x.cheap(0), Math.abs(more) > 200 ? -2 : 0);
            edges.due("few(0) of " + more, x.few(0), Math.abs(more) > 200 ? -2 : Math.abs(more));
            edges.due("alone(0, 0) of " + more, x.alone(0, 0), Math.abs(more) > 200 ? -2 : 0);
            edges.due("alone(0, 1) of " + more, x.alone(0, 1), Math.abs(more) > 200 ? -2 : 0);
        }
        edges.due("none of that KIND", Check.told(KIND + "kind b 1 0;has 0 a 1;deed d b 1 0 100;").cheap(0), -2);
        edges.due("no DEEDS", Check.told(KIND + "has 0 a 1;").cheap(0), -2);
        edges.due("no DEEDS, GAP 0", Check.told(KIND).cheap(0), 0);
        edges.due("for sure", Check.told(KIND + "has 0 a 1;deed d a 1 7 0;law luck 0;").cheap(0), 7);
        edges.due("by TWIN 1", Check.told(KIND + "has 0 a 6;deed d a 3 7 0;").cheap(0), 14);
        edges.due("by TWIN 0", Check.told(KIND + "has 1 a 6;deed d a 3 7 0;").cheap(0), 14);
        edges.due("of odd by even", Check.told(KIND + "has 1 a 5;deed d a 2 0 0;deed e a -4 0 0;").cheap(0), -2);
        edges.due("by both", Check.told(KIND + "has 1 a 1;deed d a 9 99 0;deed e a 8 98 0;").cheap(0), 197);
        edges.due("many for the least COST", Check.told(KIND + "has 1 a 9;deed d a 9 10 0;deed e a 1 1 0;").cheap(0), 9);
        edges.due("one for the least COST", Check.told(KIND + "has 1 a 9;deed d a 9 8 0;deed e a 1 1 0;").cheap(0), 8);
        edges.due("BY 0 alone", Check.told(KIND + "has 1 a 9;deed d a 0 0 0;").cheap(0), -2);
        // 198 and AMOUNTS up to 999 and beyond
        TwoLevel x = Check.told(KIND + "has 0 a 99;has 1 a 99;deed u a 9 0 0;deed one a 1 5 0;");
        for (int i = 0; i < 100; i++) {
            x.does(0, 0, true);
            x.does(1, 0, true);
        }
        x.exchange(0);
        edges.due("both have 999", x.amount(0, 0) + x.amount(0, 1), 1998);
        edges.due("both have 999", x.cheap(0), 0);
        Check.tell(x, KIND + "has 0 a 99;has 1 a 98;deed u a 9 0 0;deed eight a 8 1 0;");
        for (int i = 0; i < 100; i++) {
            x.does(0, 0, true);
            x.does(1, 0, true);
        }
        edges.due("999 and 998", x.kind(0, 2), 1);
        edges.due("up to 1007", x.cheap(0), 1);
    }

    private void few() {
        edges.says("FEW: the fewest such DEEDS.");
        TwoLevel x = Check.told(KIND + "kind b 1 0;has 1 a 9;deed d a 9 99 0;deed e a 1 0 0;deed f b 1 0 0;");
        edges.due("one", x.few(0), 1);
        edges.due("none", x.few(1), 0);
        edges.due("both do", Check.told(KIND + "has 1 a 1;deed d a 9 99 0;deed e a 8 98 0;").few(0), 2);
        edges.due("odd", Check.told(KIND + "has 1 a 1;deed d a 2 0 0;").few(0), -2);
        edges.due("198 by 9", Check.told(KIND + "has 0 a 99;has 1 a -99;deed d a -9 0 0;deed e a 8 0 0;").few(0), 22);
    }

    private void plan(TwoLevel x, int twin, int n, int apart, int... deeds) {
        for (int day = 0; day < 4; day++) {
            edges.due("plan(" + twin + ", " + n + ", " + day + ")", x.plan(twin, n, day), day < deeds.length ? deeds[day] : -2);
        }
        edges.due("plan(" + twin + ", " + n + ", 4)", x.plan(twin, n, 4), apart);
    }

    private void plan() {
        edges.says("PLAN of a TWIN for n DAYS 1 .. 4: on each of these DAYS it does one DEED or none, for sure, ahead of (1), if"
                + " PURSE has COST then (else nothing):");
        TwoLevel x = Check.told(KIND + "has 0 a 9;deed four a -4 0 0;");
        plan(x, 0, 1, 5, 0);
        plan(x, 0, 2, 1, 0, 0);
        plan(x, 0, 3, 1, -2, 0, 0);
        plan(x, 0, 4, 1, -2, -2, 0, 0);
        plan(x, 1, 4, 9);
        plan(Check.told(KIND + "has 0 a 99;deed four a -4 0 0;"), 0, 4, 83, 0, 0, 0, 0);
        plan(Check.told(KIND + "has 0 a 4;deed d a -4 5 0;purse 0 5;"), 0, 1, 0, 0);
        plan(Check.told(KIND + "has 0 a 4;deed d a -4 5 0;purse 0 4;purse 1 99;"), 0, 1, 4);
        plan(Check.told(KIND + "has 0 a 8;deed d a -4 5 0;purse 0 9;"), 0, 2, 4, -2, 0);
        plan(Check.told(KIND + "has 0 a 8;deed d a -4 5 0;purse 0 9;wage 0 1;"), 0, 2, 0, 0, 0);
        plan(Check.told(KIND + "has 0 a 8;deed d a -4 5 0;purse 0 8;wage 0 1;"), 0, 2, 4, -2, 0);
        // ahead of (1): what it does by days is REFUSED then, what the other one does is not
        plan(Check.told(KIND + "has 0 a 5;deed d a -5 3 0;deed e a 9 3 100;do 0 e 0;purse 0 5;"), 0, 1, 0, 0);
        plan(Check.told(KIND + "has 0 a 5;deed d a -5 3 0;deed e a 9 3 100;do 1 e 0;purse 0 5;purse 1 3;"), 0, 1, 4);
        // up to 999 ahead of (1)
        x = Check.told(KIND + "has 0 a 99;deed u a 9 0 0;deed v a -9 0 100;do 0 v 0;law apart 9999-own;");
        for (int i = 0; i < 100; i++) {
            x.does(0, 0, true);
        }
        plan(x, 0, 1, 9999 - 990);
        // DAYS from now on
        x = Check.told(KIND + "has 0 a 5;deed d a -1 0 100;do 0 d 2;");
        x.go(2);
        plan(x, 0, 2, 2, 0, 0);
        edges.due("all stays", x.count(4) * 1000 + x.amount(0, 0) * 10 + x.done(0, 3), 2050);
    }

    private void planFirst() {
        edges.says("so that APART behind them as it goes is least, of several the first by DAYS (none is first, then DEEDS by"
                + " numbers).");
        plan(Check.told(KIND), 0, 4, 0);
        plan(Check.told(KIND + "has 0 a 1;deed d a -1 0 0;deed e a -1 0 0;"), 0, 1, 0, 0);
        plan(Check.told(KIND + "has 0 a 1;deed d a -2 0 0;deed e a -1 0 0;"), 0, 1, 0, 1);
        plan(Check.told(KIND + "has 0 a 1;deed d a -2 0 0;"), 0, 1, 1);
        plan(Check.told(KIND + "has 0 a 3;deed d a -1 0 0;deed e a -2 0 0;"), 0, 2, 0, 0, 1);
        plan(Check.told(KIND + "has 0 a 3;deed d a -2 0 0;deed e a -1 0 0;"), 0, 2, 0, 0, 1);
        plan(Check.told(KIND + "has 0 a 3;deed d a -1 0 0;deed e a -2 0 0;"), 0, 3, 0, -2, 0, 1);
        plan(Check.told(KIND + "has 0 a 4;deed d a -1 0 0;deed e a -2 0 0;"), 0, 3, 0, -2, 1, 1);
        plan(Check.told(KIND + "has 0 a 4;deed d a -3 0 0;deed e a -1 0 0;"), 0, 2, 0, 0, 1);
        // what can't be paid is nothing, so none is first
        plan(Check.told(KIND + "has 1 a 1;deed d a 1 1 0;"), 0, 1, 1);
        // behind them as it goes: healing and what is done by days comes off by ODDS 50
        plan(Check.told("kind a 1 2;has 0 a 9;deed d a -5 0 0;"), 0, 2, 0, -2, 0);
        plan(Check.told(KIND + "has 0 a 9;deed d a -5 0 50;do 0 d 0;"), 0, 1, 1, 0);
        plan(Check.told(KIND + "has 0 a 9;deed d a -5 0 49;do 0 d 0;"), 0, 1, 4, 0);
        plan(Check.told(KIND + "has 0 a 9;deed d a 1 0 0;law apart 20-own;"), 0, 3, 8, 0, 0, 0);
        // by DAYS: what comes late heals less
        plan(Check.told("kind a 1 9;has 1 a 99;deed d a 9 0 0;law apart 100-own;"), 0, 2, 100);
    }

    private void mean(TwoLevel x, int kind, int twin, int n, int above, int below) {
        String call = "mean(" + kind + ", " + twin + ", " + n + ", ";
        edges.due(call + "0)", x.mean(kind, twin, n, 0), above);
        edges.due(call + "1)", x.mean(kind, twin, n, 1), below);
    }

    private void mean() {
        edges.says("MEAN of a KIND and a TWIN for n DAYS: what is to be done by it in the next n DAYS by DEEDS of that KIND, BY"
                + " times ODDS by 100, in sum, as a fraction (0 by 1 of none).");
        TwoLevel x = Check.told("kind a 1 0;kind b 1 0;deed d a 9 99 99;deed e a -1 0 1;deed f b 5 0 20;deed g a -9 0 50;"
                + "do 0 d 0;do 0 e 2;do 0 f 2;do 1 g 3;do 0 d 4;do 0 e 99;law luck 0;");
        mean(x, 0, 0, 0, 0, 1);
        mean(x, 0, 0, 1, 891, 100);
        mean(x, 0, 0, 2, 891, 100);
        mean(x, 0, 0, 3, 89, 10);
        mean(x, 0, 0, 4, 89, 10);
        mean(x, 0, 0, 5, 1781, 100);
        mean(x, 0, 0, 99, 1781, 100);
        mean(x, 1, 0, 2, 0, 1);
        mean(x, 1, 0, 3, 1, 1);
        mean(x, 1, 1, 99, 0, 1);
        mean(x, 0, 1, 3, 0, 1);
        mean(x, 0, 1, 4, -9, 2);
        x.go(1);
        mean(x, 0, 0, 1, 0, 1);
        mean(x, 0, 0, 2, -1, 100);
        mean(x, 0, 0, 98, 89, 10);
        mean(x, 0, 0, 99, 889, 100);
        mean(Check.told("kind a 1 0;deed d a 1 0 50;deed e a -5 0 10;do 0 d 0;do 0 e 0;"), 0, 0, 1, 0, 1);
        mean(Check.told("kind a 1 0;deed d a 9 0 100;" + "do 0 d 7;".repeat(12)), 0, 0, 8, 108, 1);
        mean(Check.told("kind a 1 0;deed d a -9 0 100;" + "do 0 d 7;".repeat(12)), 0, 0, 8, -108, 1);
    }

    private void nearest() {
        edges.says("NEAREST for n DAYS: in how many of 0 .. n DAYS as it goes APART is least, the first of several.");
        TwoLevel x = Check.told(KIND + "has 0 a 5;deed d a -2 0 50;deed e a -9 0 49;do 0 d 1;do 0 e 2;do 0 d 3;");
        // 5 5 3 3 1 1 ..
        int[] due = {0, 0, 2, 2, 4, 4, 4};
        int[] apart = {5, 5, 3, 3, 1, 1, 1};
        for (int n = 0; n < due.length; n++) {
            edges.due("nearest(" + n + ", 0)", x.nearest(n, 0), due[n]);
            edges.due("nearest(" + n + ", 1)", x.nearest(n, 1), apart[n]);
        }
        x.go(3);
        edges.due("from the DAY on", x.nearest(1, 0), 1);
        x = Check.told(KIND + "law apart 300-day;");
        edges.due("the last of 200", x.nearest(200, 0), 200);
        edges.due("the last of 200", x.nearest(200, 1), 100);
        x = Check.told(KIND + "law apart 300+day;");
        edges.due("now", x.nearest(200, 0), 0);
    }

    private void looks() {
        edges.says("SIGN: the KIND of which GAP times SHOWS is most, the first of several.");
        String kinds = "kind a 1 0;kind b 5 0;kind c 9 0;";
        edges.due("9 10 9", Check.told(kinds + "has 0 a 9;has 1 b 2;has 0 c 1;").sign(), 1);
        edges.due("10 10 9", Check.told(kinds + "has 1 a 10;has 1 b 2;has 0 c 1;").sign(), 0);
        edges.due("9 5 9", Check.told(kinds + "has 0 a 9;has 1 b 1;has 0 c -1;").sign(), 0);
        edges.due("0 0 9", Check.told(kinds + "has 0 c -1;").sign(), 2);
        edges.due("1 0 0", Check.told(kinds + "has 0 a -1;").sign(), 0);

        edges.says("A LOOK at a KIND tells one from the other, if GAP times SHOWS is 10 at least.");
        edges.due("9 by 1", Check.told("kind a 1 0;has 0 a 9;").tells(), 0);
        edges.due("10 by 1", Check.told("kind a 1 0;has 0 a 10;").tells(), 1);
        edges.due("11 by 1", Check.told("kind a 1 0;has 0 a 11;").tells(), 1);
        edges.due("1 by 9", Check.told("kind a 9 0;has 1 a 1;").tells(), 0);
        edges.due("2 by 5", Check.told("kind a 5 0;has 1 a 2;").tells(), 1);
        edges.due("99 by 0", Check.told("kind a 0 0;has 1 a 99;").tells(), 0);
        edges.due("0 by 9", Check.told("kind a 9 0;").tells(), 0);
        edges.says("TELLS: KINDS (bits) of which a LOOK does.");
        edges.due("no KINDS", new TwoLevel().tells(), 0);
        String six = "kind a 9 0;kind b 9 0;kind c 9 0;kind d 9 0;kind e 9 0;kind f 9 0;";
        edges.due("none", Check.told(six).tells(), 0);
        edges.due("all six", Check.told(six + "has 0 a 2;has 0 b 2;has 0 c 2;has 0 d 2;has 0 e 2;has 0 f 2;").tells(), 63);
        edges.due("the last one", Check.told(six + "has 0 a 1;has 0 f 2;").tells(), 32);

        edges.says("WANTED of a TWIN: KINDS (bits) of which it has less than the other one.");
        TwoLevel x = Check.told(six + "has 0 a 5;has 1 a 5;has 0 b 4;has 1 b 5;has 0 c 6;has 1 c 5;has 0 d -1;has 1 e -1;"
                + "has 0 f -3;has 1 f -2;");
        edges.due("of TWIN 0", x.wanted(0), 2 + 8 + 32);
        edges.due("of TWIN 1", x.wanted(1), 4 + 16);
        edges.due("no KINDS", new TwoLevel().wanted(0), 0);
    }

    private void best() {
        edges.says("BEST of a TWIN: the DEED that, come OFF now, makes APART least, of several the one of least COST, of these the"
                + " first (PURSE isn't looked at).");
        String gap = KIND + "has 0 a 5;";
        edges.due("the least", Check.told(gap + "deed d a -3 0 0;deed e a -4 99 0;deed f a -7 0 0;").best(0), 1);
        edges.due("of less COST", Check.told(gap + "deed d a -4 9 0;deed e a -6 8 0;deed f a -4 9 0;").best(0), 1);
        edges.due("the first", Check.told(gap + "deed d a 1 0 0;deed e a -6 8 0;deed f a -4 8 0;").best(0), 1);
        edges.due("it goes farther", Check.told(gap + "deed d a 2 0 0;deed e a 1 99 0;").best(0), 1);
        edges.due("of TWIN 1", Check.told(gap + "deed d a -3 0 0;deed e a 4 99 0;").best(1), 1);
        edges.due("come OFF against ODDS", Check.told(gap + "deed d a -1 0 100;deed e a -5 0 0;law luck 0;").best(0), 1);
        edges.due("of several KINDS", Check.told("kind a 1 0;kind b 1 0;has 0 a 5;has 0 b 3;deed d b -5 0 0;deed e a -2 9 0;")
                .best(0), 1);
        TwoLevel x = Check.told(KIND + "has 0 a 99;deed n a 9 1 0;deed o a 0 0 0;deed e a 8 1 0;purse 0 100;law apart 9999-own;");
        for (int i = 0; i < 100; i++) {
            x.does(0, 0, true);
        }
        edges.due("999 by 9 is 999", x.best(0), 1);
        edges.due("of TWIN 1 by law", x.best(1), 1);
        x.exchange(0);
        edges.due("from 0 by 9", x.best(0), 0);
    }

    private void rests(int apart, int first, int second, int... due) {
        String text = "kind a 1 0;has 0 a " + first + ";has 1 a " + second + ";law apart " + apart + ";";
        TwoLevel x = Check.told(text);
        edges.due("rests() of " + text, x.rests(), due.length);
        for (int k = 0; k < due.length; k++) {
            edges.due("rest(" + k + ") of " + text, x.rest(k), due[k]);
        }
        edges.due("rest(" + due.length + ") of " + text, x.rest(due.length), -2);
    }

    private void game() {
        edges.says("GAME: each would be LEVEL (0) or HAPPY (1): both LEVEL: each has 10 less APART, 0 at least; one HAPPY alone: it"
                + " has its HAPPY by 5, cut, 5 at least, the other one 0 less APART by 10, cut; both HAPPY: each HAPPY by 10,"
                + " cut.");
        // 10 less APART against 5
        rests(4, 0, 0, 0, 11);
        rests(5, 0, 0, 0, 1, 10, 11);
        rests(6, 0, 0, 1, 10, 11);
        rests(9999, 0, 0, 11);
        // HAPPY by 5, cut, against 6 and against 5
        rests(4, 34, 0, 0, 10, 11);
        rests(4, 35, 0, 10, 11);
        rests(4, 0, 34, 0, 1, 11);
        rests(4, 0, 35, 1, 11);
        rests(5, 29, 0, 0, 10, 11);
        rests(5, 30, 0, 10, 11);
        // HAPPY by 10, cut, against 0 less APART by 10, cut
        rests(9, -9, -9, 1, 10, 11);
        rests(9, -10, -9, 1, 10);
        rests(9, -9, -10, 1, 10);
        rests(10, -10, -10, 1, 10, 11);
        rests(10, -19, -19, 1, 10, 11);
        rests(10, -20, -10, 1, 10);
        rests(10, -9, -10, 10, 11);
        rests(10, -10, -9, 1, 11);
        rests(19, -20, -20, 1, 10);
        rests(20, -20, -20, 1, 10, 11);
        rests(0, 9, 9, 0, 11);
        rests(9, 9, 9, 1, 10, 11);
        rests(9, 10, 9, 10, 11);
        rests(9, 9, 10, 1, 11);

        edges.says("A REST: neither would have more otherwise.");
        rests(0, 49, 49, 0, 11);
        rests(0, 54, 54, 0, 11);
        rests(0, 55, 54, 11);
        rests(0, 54, 55, 11);
        rests(0, 55, -99, 10);
        rests(0, 0, -99, 0);
        edges.says("RESTS: by TWIN 0's, then 1's.");
        rests(5, 9, -9, 0, 1, 10, 11);
    }

    private void sure() {
        edges.says("SURE of a DEED n times: how likely all come OFF by ODDS, as a fraction.");
        TwoLevel x = Check.told(KIND + "deed d a 1 0 0;deed e a 1 0 1;deed f a 1 0 99;deed g a 1 0 100;deed h a 1 0 20;law luck 0;");
        long[][] due = {{0, 0, 1, 1}, {0, 1, 0, 1}, {0, 6, 0, 1}, {1, 0, 1, 1}, {1, 1, 1, 100}, {1, 6, 1, 1000000000000L},
            {2, 1, 99, 100}, {2, 6, 941480149401L, 1000000000000L}, {3, 0, 1, 1}, {3, 1, 1, 1}, {3, 6, 1, 1},
            {4, 1, 1, 5}, {4, 6, 1, 15625}};
        for (long[] row : due) {
            String call = "sure(" + row[0] + ", " + row[1] + ", ";
            edges.due(call + "0)", x.sure((int) row[0], (int) row[1], 0), row[2]);
            edges.due(call + "1)", x.sure((int) row[0], (int) row[1], 1), row[3]);
        }
    }

    private int who(int amount, int bound, boolean atLeast) {
        TwoLevel x = Check.told(KIND + "has 0 a " + amount + ";has 1 a " + amount + ";");
        edges.due("its number", x.note(0, bound, atLeast), 0);
        return x.who();
    }

    private void notes() {
        edges.says("A NOTE, at most 24 with all, numbered from 0 on: of the TWIN in question the AMOUNT of a KIND is so much"
                + " -999 .. 999 at least, or less.");
        edges.due("5 is 5 at least", who(5, 5, true), 3);
        edges.due("4 isn't 5 at least", who(4, 5, true), 0);
        edges.due("6 is 5 at least", who(6, 5, true), 3);
        edges.due("5 isn't less than 5", who(5, 5, false), 0);
        edges.due("4 is less than 5", who(4, 5, false), 3);
        edges.due("-5 is -5 at least", who(-5, -5, true), 3);
        edges.due("-6 is less than -5", who(-6, -5, false), 3);
        edges.due("0 is -999 at least", who(0, -999, true), 3);
        edges.due("0 is less than 999", who(0, 999, false), 3);
        TwoLevel x = Check.told(KIND);
        edges.due("-1000", x.note(0, -1000, true), -1);
        edges.due("1000", x.note(0, 1000, true), -1);
        for (int i = 0; i < 24; i++) {
            edges.due("its number", x.note(0, 0, true), i);
        }
        edges.due("a 25th", x.note(0, 0, true), -1);
        edges.due("count(9)", x.count(9), 24);
    }

    private int healings(String text, int days, int gap, boolean atLeast) {
        TwoLevel x = Check.told(text);
        edges.due("its number", x.see(days, 0, gap, atLeast), 0);
        return x.healings(0);
    }

    private void sights() {
        edges.says("A SIGHT: behind so many DAYS 1 .. 60 (as it goes from the TEXT on, nothing done by call) GAP of a KIND was so"
                + " much 0 .. 999 at least, or less; numbered on with NOTES.");
        String nine = "kind a 1 0;has 0 a 9;";
        edges.due("9 less 0 .. 4 is 5 at least", healings(nine, 1, 5, true), 0b11111);
        edges.due("9 less 5 .. 9 is less than 5", healings(nine, 1, 5, false), 0b1111100000);
        edges.due("0 at least", healings(nine, 1, 0, true), 1023);
        edges.due("less than 0", healings(nine, 1, 0, false), 0);
        edges.due("less than 1", healings(nine, 1, 1, false), 512);
        edges.due("999 at least", healings(nine, 1, 999, true), 0);
        edges.due("less than 999", healings(nine, 1, 999, false), 1023);
        edges.due("behind 60: 99 less 60", healings("kind a 1 0;has 0 a 99;", 60, 39, true), 3);
        edges.due("behind 59: 99 less 59", healings("kind a 1 0;has 0 a 99;", 59, 40, true), 3);
        edges.due("behind 60 less than 39", healings("kind a 1 0;has 0 a 99;", 60, 39, false), 1020);
        TwoLevel x = Check.told(nine);
        edges.due("behind 0", x.see(0, 0, 5, true), -1);
        edges.due("behind 61", x.see(61, 0, 5, true), -1);
        edges.due("-1", x.see(1, 0, -1, true), -1);
        edges.due("1000", x.see(1, 0, 1000, true), -1);
        edges.due("a NOTE", x.note(0, 9, true), 0);
        edges.due("numbered on", x.see(1, 0, 9, true), 1);
        edges.due("numbered on", x.note(0, 9, true), 2);
        // as it goes: ODDS 50 come OFF, 49 don't; from the TEXT on, whatever was done since
        edges.due("ODDS 50", healings(KIND + "deed d a 3 0 50;do 0 d 0;", 1, 3, true), 1);
        edges.due("ODDS 49", healings(KIND + "deed d a 3 0 49;do 0 d 0;", 1, 1, false), 1023);
        x = Check.told(nine + "deed d a -9 1 100;purse 0 1;do 0 d 1;");
        x.does(0, 0, true);
        x.exchange(0);
        x.go(5);
        x.give(0, 9);
        x.see(1, 0, 9, true);
        x.see(2, 0, 0, true);
        x.see(2, 0, 1, false);
        edges.due("9 behind one, 0 behind two by 0", x.healings(0), 1);
        for (int i = 3; i < 24; i++) {
            edges.due("its number", x.see(1, 0, 0, true), i);
        }
        edges.due("a 25th", x.see(1, 0, 0, true), -1);
    }

    private void strikes() {
        edges.says("A STRIKE of one of these.");
        TwoLevel x = Check.told(KIND);
        x.note(0, 1, true);
        x.see(1, 0, 1, true);
        edges.due("of a NOTE", x.strike(0), 2);
        edges.due("it is STRUCK", x.who(), 3);
        edges.due("the SIGHT isn't", x.healings(0), 0);
        edges.due("of a SIGHT", x.strike(1), 3);
        edges.due("it is STRUCK", x.healings(0), 1023);
        edges.due("of a STRIKE", x.strike(3), 4);
        edges.due("the SIGHT isn't STRUCK", x.healings(0), 0);
        edges.due("the NOTE is", x.who(), 3);
        for (int i = 5; i < 24; i++) {
            edges.due("its number", x.strike(4), i);
        }
        edges.due("a 25th", x.strike(0), -1);
    }

    private void known() {
        edges.says("KNOWN by n (all at first): the first n that aren't STRUCK by one of these (a STRIKE may be STRUCK: then it"
                + " doesn't count; asked from the last one on).");
        TwoLevel x = Check.told(KIND + "has 0 a 5;has 1 a 3;");
        x.note(0, 4, true);
        x.note(0, 4, false);
        x.strike(1);
        x.strike(0);
        x.strike(3);
        x.strike(2);
        x.strike(5);
        // 0: TWIN 0 alone; 1: none; 2: 0; 3: both; 4: 0; 5: none (2 STRUCK); 6: TWIN 0 (5 STRUCK)
        int[] due = {3, 1, 0, 1, 3, 1, 0, 1};
        edges.due("all at first", x.who(), 1);
        for (int n = 0; n <= 7; n++) {
            edges.due("known(" + n + ")", x.known(n), true);
            edges.due("who() by " + n, x.who(), due[n]);
        }
        edges.due("known(8)", x.known(8), false);
        edges.due("still by 7", x.who(), 1);
        // a chain: each STRIKES the one ahead of it
        x = Check.told(KIND);
        x.note(0, 1, true);
        for (int i = 0; i < 23; i++) {
            edges.due("who() with " + i, x.who(), i % 2 == 0 ? 0 : 3);
            x.strike(i);
        }
        edges.due("who() with 23", x.who(), 3);
        edges.due("a STRIKE that is STRUCK twice", chained(), 0);
    }

    private static int chained() {
        TwoLevel x = Check.told(KIND);
        x.note(0, 1, true);
        x.strike(0);
        x.strike(1);
        x.strike(1);
        x.strike(2);
        return x.who();
    }

    private void who() {
        edges.says("WHO: TWINS (bits) of which all KNOWN NOTES are so now.");
        TwoLevel x = Check.told("kind a 1 0;kind b 1 0;has 0 a 5;has 1 b 5;deed d a 5 0 0;");
        edges.due("no NOTES", x.who(), 3);
        x.note(0, 5, true);
        edges.due("TWIN 0", x.who(), 1);
        x.note(1, 5, true);
        edges.due("none of both", x.who(), 0);
        x.known(0);
        edges.due("none KNOWN", x.who(), 3);
        x.known(2);
        x.exchange(0);
        edges.due("TWIN 1 now", x.who(), 2);
        x.exchange(1);
        x.does(0, 0, true);
        edges.due("TWIN 0 now", x.who(), 1);
        x.see(1, 0, 999, true);
        edges.due("SIGHTS aren't asked", x.who(), 1);
    }

    private void healings() {
        edges.says("HEALINGS of a KIND: 0 .. 9 (bits) in place of HEALS, by which all KNOWN SIGHTS are so.");
        TwoLevel x = Check.told("kind a 1 4;kind b 1 4;has 0 a 9;has 1 b 9;");
        edges.due("no SIGHTS", x.healings(0), 1023);
        x.see(1, 0, 1, false);
        edges.due("9 alone", x.healings(0), 512);
        edges.due("of b a has 4", x.healings(1), 0);
        x.known(0);
        edges.due("none KNOWN", x.healings(1), 1023);
        x.known(1);
        edges.due("KNOWN again", x.healings(1), 0);
        x.strike(0);
        x.known(-1);
        x.see(1, 0, 9, true);
        edges.due("0 alone", x.healings(0), 1);
        x.strike(2);
        x.see(1, 0, 5, true);
        x.see(1, 0, 6, false);
        edges.due("4 alone", x.healings(0), 16);
        edges.due("of b all", x.healings(1), 1023);
        x.note(0, 999, true);
        edges.due("NOTES aren't asked", x.healings(0), 16);
        edges.due("HEALS stays", x.kind(0, 1), 4);
        edges.due("in place of HEALS in a law", healings("kind a 1 0;has 0 a 9;law heal heals-5;", 1, 9, false), 0b1111000000);
        edges.due("where a law has an ERROR", healings("kind a 1 0;has 0 a 9;law heal 1/0;", 1, 5, false), 0b1111100000);
        edges.due("a law without heals", healings("kind a 1 0;has 0 a 9;law heal 1;", 1, 9, false), 1023);
    }

    private void tried() {
        edges.says("TRIED for n DAYS as it goes: APART then: 0 nothing heals, 1 all comes OFF, 2 TWIN i does nothing, 3 no COST,"
                + " 4 no WAGE.");
        TwoLevel x = Check.told("kind a 1 3;kind b 1 0;has 0 a 9;has 1 b 5;deed d b 1 4 49;deed e b 2 4 50;"
                + "do 0 e 0;do 1 d 1;do 0 e 1;do 1 e 2;wage 0 4;wage 1 2;purse 0 3;");
        // a: 9 6 3 0. DAY 0: e of 0 REFUSED; 1: d of 1 REFUSED (2 of 4), e of 0 OFF; 2: e of 1 OFF by 4: b 0 5, 2 5, 2 7
        String before = Edges.seen(x);
        int[][] due = {{14, 11, 6, 5}, {14, 14, 12, 14}, {14, 11, 6, 5}, {14, 11, 8, 7}, {14, 11, 6, 3}, {14, 9, 4, 3},
            {14, 11, 8, 5}};
        for (int n = 0; n <= 3; n++) {
            edges.due("ahead", x.ahead(n, 0, 0), due[0][n]);
            edges.due("nothing heals, " + n, x.tried(0, 0, n), due[1][n]);
            edges.due("all comes OFF, " + n, x.tried(1, 0, n), due[2][n]);
            edges.due("TWIN 0 does nothing, " + n, x.tried(2, 0, n), due[3][n]);
            edges.due("TWIN 1 does nothing, " + n, x.tried(2, 1, n), due[4][n]);
            edges.due("no COST, " + n, x.tried(3, 0, n), due[5][n]);
            edges.due("no WAGE, " + n, x.tried(4, 0, n), due[6][n]);
        }
        edges.same("what is seen", Edges.seen(x), before);
        edges.due("against a law of healing", Check.told("kind a 1 3;has 0 a 9;law heal 2;").tried(0, 0, 2), 9);
        x = Check.told(KIND + "deed d a 3 1 0;do 0 d 0;do 0 d 0;purse 0 1;law luck 0;");
        edges.due("all comes OFF against a law, what is paid", x.tried(1, 0, 1), 3);
        edges.due("no COST: as it goes", x.tried(3, 0, 1), 0);
        x = Check.told(KIND + "deed d a 3 1 100;do 0 d 0;do 0 d 0;purse 0 1;");
        edges.due("no COST: both", x.tried(3, 0, 1), 6);
    }
}
