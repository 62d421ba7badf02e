import java.io.IOException;

/** Part 4 of the terms and promises 26 to 49, sentence by sentence. */
final class EdgeLaterTest {
    private static final int MIN = Edges.MIN;
    private static final int MAX = Edges.MAX;
    private static final int[] NO_TWINS = {-1, 2, MIN, MAX};
    private static final int[] NO_TWOS = {-1, 2, MIN, MAX};
    /** Two KINDS, two DEEDS, two things to be done. */
    private static final String TEXT = "kind a 3 1;kind b 5 0;has 0 a -20;has 1 a -14;has 0 b 10;deed dog a -3 5 60;"
            + "deed cry b 2 4 30;do 1 dog 0;do 0 cry 7;purse 0 10;purse 1 4;wage 0 2;";

    private final Edges edges = new Edges("EdgeLaterTest");

    private EdgeLaterTest() throws IOException {
    }

    public static void main(String[] args) throws IOException {
        EdgeLaterTest test = new EdgeLaterTest();
        test.undone();
        test.images();
        test.best();
        test.rests();
        test.sure();
        test.happier();
        test.alone();
        test.mean();
        test.nearest();
        test.payers();
        test.healed();
        test.due();
        test.busiest();
        test.note();
        test.see();
        test.strike();
        test.known();
        test.who();
        test.chance();
        test.tried();
        test.undo();
        test.keep();
        test.back();
        test.count();
        test.edges.end();
    }

    private void undone() {
        edges.terms(4);
        edges.says("Doing, giving, exchanging by call can be undone, the latest first (20 at most), if no DAY went by since.");
        String text = "kind a 1 0;kind b 1 0;has 0 a 5;has 1 b 3;has 1 a 90;deed d a 9 4 0;purse 0 9;purse 1 990;";
        TwoLevel x = Check.told(text);
        String[] seen = new String[5];
        seen[0] = Edges.seen(x);
        x.does(1, 0, true);
        seen[1] = Edges.seen(x);
        x.exchange(0);
        seen[2] = Edges.seen(x);
        x.give(1, 99);
        seen[3] = Edges.seen(x);
        x.does(0, 0, false);
        for (int left = 3; left >= 0; left--) {
            edges.due("undo()", x.undo(), left);
            edges.same("what is seen", Edges.seen(x), seen[left]);
        }
        edges.due("none", x.undo(), -1);
        // refused calls, days ahead and questions aren't among them
        x = Check.told(text);
        x.give(0, 1);
        x.give(0, 0);
        x.does(0, 1, true);
        x.does(2, 0, true);
        x.exchange(2);
        x.note(0, 1, true);
        x.known(0);
        x.keep();
        x.ahead(5, 0, 0);
        x.go(0);
        x.go(-1);
        x.text(1);
        Check.tell(x, "?");
        edges.due("one", x.count(11), 1);
        x.does(0, 0, true);
        edges.due("two", x.count(11), 2);
        x.go(1);
        edges.due("a DAY went by", x.count(11), 0);
        edges.due("a DAY went by", x.undo(), -1);
        x.give(0, 1);
        edges.due("since", x.undo(), 0);
        // what was at its most is as it was
        x = Check.told("kind a 1 0;has 0 a 99;has 1 a -99;deed u a 9 0 0;deed v a -9 0 0;deed t a 4 0 0;deed w a -4 0 0;");
        for (int i = 0; i < 99; i++) {
            x.does(0, 0, true);
            x.does(1, 1, true);
        }
        x.does(0, 2, true);
        x.does(1, 3, true);
        edges.due("994", x.amount(0, 0), 994);
        x.does(0, 0, true);
        x.does(1, 1, true);
        edges.due("999", x.amount(0, 0), 999);
        edges.due("-999", x.amount(0, 1), -999);
        x.undo();
        edges.due("-994", x.amount(0, 1), -994);
        x.undo();
        edges.due("994", x.amount(0, 0), 994);
        twenty();
    }

    private void twenty() {
        for (int many = 19; many <= 22; many++) {
            TwoLevel x = new TwoLevel();
            for (int i = 1; i <= many; i++) {
                x.give(0, i);
                edges.due("count(11)", x.count(11), Math.min(i, 20));
            }
            int purse = many * (many + 1) / 2;
            for (int i = many; i > Math.max(0, many - 20); i--) {
                edges.due("undo()", x.undo(), i - 1 - Math.max(0, many - 20));
                purse -= i;
                edges.due("PURSE", x.twin(0, 0), purse);
            }
            edges.due("undo()", x.undo(), -1);
            edges.due("PURSE", x.twin(0, 0), purse);
        }
    }

    private void images() {
        edges.says("An IMAGE keeps all but NOTES and SIGHTS.");
        String text = "kind a 1 1;kind b 1 0;has 0 a 9;deed d b 3 2 50;deed e b 3 9 50;do 0 d 0;do 0 d 1;do 0 d 2;do 1 e 1;do 0 d 3;"
                + "purse 0 20;wage 1 3;seed 5;";
        TwoLevel x = Check.told(text);
        x.go(2);
        x.give(0, 3);
        String kept = Edges.seen(x);
        x.keep();
        x.exchange(0);
        x.give(1, 9);
        x.go(3);
        String behind = Edges.seen(x);
        edges.due("back()", x.back(), 2);
        String plain = "^(counts( \\d+){11}) \\d+";
        edges.same("what is seen but what can be undone", Edges.seen(x).replaceFirst(plain, "$1"), kept.replaceFirst(plain, "$1"));
        x.exchange(0);
        x.give(1, 9);
        x.go(3);
        edges.same("the same numbers behind it", Edges.seen(x), behind);
        x.note(0, 9, true);
        x.see(1, 0, 9, true);
        x.back();
        edges.due("NOTES and SIGHTS stay", x.count(9), 2);
    }

    private void best() {
        edges.promise(26, "best");
        edges.says("BEST;");
        edges.due("best(0): 6 and 12 ahead of 9 and 10", Check.told(TEXT).best(0), 1);
        edges.due("best(1): 3 and 10 ahead of 6 and 8", Check.told(TEXT).best(1), 0);
        edges.says("-2: there are no DEEDS;");
        edges.due("no DEEDS", Check.told("kind a 1 0;has 0 a 5;").best(0), -2);
        edges.due("no KINDS", new TwoLevel().best(1), -2);
        edges.says("NONE: no such TWIN.");
        for (int twin : NO_TWINS) {
            edges.refused("best(" + twin + ")", TEXT, y -> y.best(twin), -1);
            edges.due("no DEEDS, no such TWIN", new TwoLevel().best(twin), -1);
        }
    }

    private void rests() {
        edges.promise(27, "rests");
        edges.says("How many RESTS the GAME has.");
        edges.due("all", Check.told("kind a 1 0;law apart 5;").rests(), 4);
        edges.due("no KINDS", new TwoLevel().rests(), 2);
        edges.due("one", Check.told("kind a 1 0;has 0 a 60;has 1 a 60;").rests(), 1);
        edges.promise(28, "rest");
        TwoLevel x = Check.told("kind a 1 0;law apart 5;");
        edges.says("The k-th: ten times TWIN 0's and 1's;");
        int[] due = {0, 1, 10, 11};
        for (int k = 0; k < 4; k++) {
            edges.due("rest(" + k + ")", x.rest(k), due[k]);
        }
        edges.says("-2: there are no so many;");
        for (int k : new int[] {4, 5, MAX}) {
            edges.due("rest(" + k + ")", x.rest(k), -2);
        }
        edges.due("rest(2) of two", new TwoLevel().rest(2), -2);
        edges.says("NONE: k is below 0.");
        for (int k : new int[] {-1, -2, MIN}) {
            edges.refused("rest(" + k + ")", TEXT, y -> y.rest(k), -1);
        }
    }

    private void sure() {
        edges.promise(29, "sure");
        TwoLevel x = Check.told(TEXT);
        edges.says("SURE (n 0 .. 6) in least terms, what 0: the number above, 1: the one below.");
        long[][] due = {{1, 1}, {3, 5}, {9, 25}, {27, 125}, {81, 625}, {243, 3125}, {729, 15625}};
        for (int n = 0; n <= 6; n++) {
            edges.due("sure(0, " + n + ", 0)", x.sure(0, n, 0), due[n][0]);
            edges.due("sure(0, " + n + ", 1)", x.sure(0, n, 1), due[n][1]);
        }
        edges.due("sure(1, 2, 1)", x.sure(1, 2, 1), 100);
        edges.says("NONE: no such ones.");
        for (int deed : NO_TWOS) {
            edges.due("sure(" + deed + ", 1, 0)", x.sure(deed, 1, 0), -1);
        }
        for (int n : new int[] {-1, 7, MIN, MAX}) {
            edges.due("sure(0, " + n + ", 0)", x.sure(0, n, 0), -1);
        }
        for (int what : NO_TWOS) {
            edges.due("sure(0, 1, " + what + ")", x.sure(0, 1, what), -1);
        }
        edges.due("no DEEDS", new TwoLevel().sure(0, 0, 0), -1);
    }

    private void happier() {
        edges.promise(30, "happier");
        edges.says("The TWIN that is HAPPY more;");
        edges.due("5 and 4", Check.told("kind a 1 0;has 0 a 5;has 1 a 4;").happier(), 0);
        edges.due("-5 and -4", Check.told("kind a 1 0;has 0 a -5;has 1 a -4;").happier(), 1);
        edges.due("by the sum", Check.told("kind a 9 0;kind b 1 0;has 0 a 5;has 1 b 6;").happier(), 1);
        edges.says("-2: both alike.");
        edges.due("by the sum", Check.told("kind a 9 0;kind b 1 0;has 0 a 5;has 1 b 5;").happier(), -2);
        edges.due("no KINDS", new TwoLevel().happier(), -2);
    }

    private void alone() {
        edges.promise(31, "alone");
        edges.says("CHEAP of a KIND, if but one TWIN does all DEEDS;");
        String text = "kind a 1 0;kind b 1 0;has 0 a 7;has 1 b 7;deed up a 3 5 0;deed down a -1 9 0;deed joy b 7 3 0;";
        TwoLevel x = Check.told(text);
        edges.due("alone(0, 0): seven times down", x.alone(0, 0), 63);
        edges.due("alone(0, 1): three times up, twice down", x.alone(0, 1), 33);
        edges.due("cheap(0): twice up of 1, down of 0", x.cheap(0), 19);
        edges.due("alone(1, 0)", x.alone(1, 0), 3);
        edges.due("GAP 0", Check.told("kind a 1 0;").alone(0, 0), 0);
        edges.says("-2 likewise;");
        edges.due("alone(1, 1): none less", x.alone(1, 1), -2);
        edges.due("no DEEDS", Check.told("kind a 1 0;has 0 a 1;").alone(0, 0), -2);
        for (int twin = 0; twin < 2; twin++) {
            TwoLevel y = Check.told("kind a 1 0;has " + twin + " a 99;has " + (1 - twin) + " a -99;deed u a 2 0 0;deed d a -1 1 0;");
            edges.due("198", y.alone(0, twin), 198);
            y.does(twin, 0, true);
            edges.due("200", y.alone(0, twin), 200);
            edges.due("200 by the other", y.alone(0, 1 - twin), 0);
            y.give(1 - twin, 1);
            y.does(1 - twin, 1, true);
            edges.due("201", y.alone(0, twin), -2);
            edges.due("201 by the other", y.alone(0, 1 - twin), -2);
        }
        edges.says("NONE: no such ones.");
        for (int no : NO_TWOS) {
            edges.refused("alone(" + no + ", 0)", text, y -> y.alone(no, 0), -1);
            edges.refused("alone(0, " + no + ")", text, y -> y.alone(0, no), -1);
        }
    }

    private void mean() {
        edges.promise(32, "mean");
        TwoLevel x = Check.told(TEXT);
        edges.says("MEAN (n 0 .. 99) in least terms, what 0: the number above (may be below 0), 1: the one below.");
        int[][] due = {{0, 1, 0, 0, 1}, {0, 1, 1, -9, 5}, {0, 1, 99, -9, 5}, {1, 0, 7, 0, 1}, {1, 0, 8, 3, 5}, {1, 0, 99, 3, 5}};
        for (int[] row : due) {
            String call = "mean(" + row[0] + ", " + row[1] + ", " + row[2] + ", ";
            edges.due(call + "0)", x.mean(row[0], row[1], row[2], 0), row[3]);
            edges.due(call + "1)", x.mean(row[0], row[1], row[2], 1), row[4]);
        }
        edges.says("Integer.MIN_VALUE: no such ones.");
        for (int no : NO_TWOS) {
            edges.due("mean(" + no + ", 0, 1, 0)", x.mean(no, 0, 1, 0), MIN);
            edges.due("mean(0, " + no + ", 1, 0)", x.mean(0, no, 1, 0), MIN);
            edges.due("mean(0, 0, 1, " + no + ")", x.mean(0, 0, 1, no), MIN);
        }
        for (int n : new int[] {-1, 100, MIN, MAX}) {
            edges.due("mean(0, 0, " + n + ", 0)", x.mean(0, 0, n, 0), MIN);
            edges.due("mean(0, 0, " + n + ", 1)", x.mean(0, 0, n, 1), MIN);
        }
    }

    private void nearest() {
        edges.promise(33, "nearest");
        TwoLevel x = Check.told(TEXT);
        edges.says("NEAREST for n DAYS 0 .. 200, what 0: in how many, 1: APART then.");
        // a: 6 up to DAY 14, then less by 1 a DAY: 0 on DAY 20
        edges.due("nearest(0, 0)", x.nearest(0, 0), 0);
        edges.due("nearest(0, 1)", x.nearest(0, 1), 16);
        edges.due("nearest(14, 0)", x.nearest(14, 0), 0);
        edges.due("nearest(15, 0)", x.nearest(15, 0), 15);
        edges.due("nearest(15, 1)", x.nearest(15, 1), 15);
        edges.due("nearest(200, 0)", x.nearest(200, 0), 20);
        edges.due("nearest(200, 1)", x.nearest(200, 1), 10);
        edges.says("NONE: no such ones.");
        for (int n : new int[] {-1, 201, MIN, MAX}) {
            edges.refused("nearest(" + n + ", 0)", TEXT, y -> y.nearest(n, 0), -1);
            edges.due("nearest(" + n + ", 1)", x.nearest(n, 1), -1);
        }
        for (int what : NO_TWOS) {
            edges.due("nearest(1, " + what + ")", x.nearest(1, what), -1);
        }
    }

    private void payers() {
        edges.promise(34, "payers");
        edges.says("TWINS (bits) whose PURSE has COST of a DEED;");
        String text = "kind a 1 0;deed d a 1 5 1;deed e a 1 6 1;deed f a 1 7 1;deed g a 1 0 1;purse 0 6;purse 1 5;";
        TwoLevel x = Check.told(text);
        edges.due("5 of 6 and 5", x.payers(0), 3);
        edges.due("6 of 6 and 5", x.payers(1), 1);
        edges.due("7 of 6 and 5", x.payers(2), 0);
        edges.due("0 of 6 and 5", x.payers(3), 3);
        x.does(0, 1, true);
        edges.due("5 of 0 and 5", x.payers(0), 2);
        edges.due("0 of 0 and 5", x.payers(3), 3);
        edges.says("NONE: no such DEED.");
        for (int deed : new int[] {-1, 4, MIN, MAX}) {
            edges.refused("payers(" + deed + ")", text, y -> y.payers(deed), -1);
        }
        edges.due("no DEEDS", new TwoLevel().payers(0), -1);
    }

    private int healed(int first, int second, int heals) {
        return Check.told("kind a 1 " + heals + ";has 0 a " + first + ";has 1 a " + second + ";law heal 9;").healed(0);
    }

    private void healed() {
        edges.promise(35, "healed");
        edges.says("In how many DAYS by HEALS alone nobody has anything of a KIND any more (0: now);");
        edges.due("0, 0", healed(0, 0, 3), 0);
        edges.due("0, 0 by 0", healed(0, 0, 0), 0);
        edges.due("1, 0", healed(1, 0, 3), 1);
        edges.due("3, 0", healed(3, 0, 3), 1);
        edges.due("4, 0", healed(4, 0, 3), 2);
        edges.due("0, -3", healed(0, -3, 3), 1);
        edges.due("0, -4", healed(0, -4, 3), 2);
        edges.due("6, -7", healed(6, -7, 3), 3);
        edges.due("-7, 6", healed(-7, 6, 3), 3);
        edges.due("7, 7", healed(7, 7, 3), 3);
        edges.due("99 by 1", healed(99, -99, 1), 99);
        edges.due("99 by 9", healed(99, -99, 9), 11);
        TwoLevel x = Check.told("kind a 1 0;kind b 1 2;has 0 b 9;deed d b 9 0 100;do 0 d 0;");
        edges.due("what is to be done isn't looked at", x.healed(1), 5);
        x.go(1);
        edges.due("from now on", x.healed(1), 8);
        edges.says("-2: never;");
        edges.due("1, 0 by 0", healed(1, 0, 0), -2);
        edges.due("0, -1 by 0", healed(0, -1, 0), -2);
        edges.says("NONE: no such KIND.");
        for (int kind : NO_TWOS) {
            edges.refused("healed(" + kind + ")", TEXT, y -> y.healed(kind), -1);
        }
    }

    private void due() {
        edges.promise(36, "due");
        edges.says("COST of all that a TWIN is still to do by days, in sum;");
        TwoLevel x = Check.told("kind a 1 0;deed d a 1 99 100;deed e a 1 7 100;do 0 d 0;do 0 e 0;do 0 e 1;do 1 e 1;do 0 d 99;");
        edges.due("of TWIN 0", x.due(0), 99 + 7 + 7 + 99);
        edges.due("of TWIN 1", x.due(1), 7);
        x.does(0, 0, true);
        x.go(1);
        edges.due("behind DAY 0", x.due(0), 7 + 99);
        x.go(1);
        edges.due("behind DAY 1", x.due(0), 99);
        edges.due("behind DAY 1", x.due(1), 0);
        x.go(97);
        edges.due("on DAY 99", x.due(0), 99);
        x.go(1);
        edges.due("behind DAY 99", x.due(0), 0);
        edges.due("nothing is to be done", new TwoLevel().due(0), 0);
        edges.says("NONE: no such TWIN.");
        for (int twin : NO_TWINS) {
            edges.refused("due(" + twin + ")", TEXT, y -> y.due(twin), -1);
        }
    }

    private void busiest() {
        edges.promise(37, "busiest");
        edges.says("The DAY on which most is still to be done by both, the first of several;");
        String deed = "kind a 1 0;deed d a 1 99 100;";
        edges.due("one of DAY 99", Check.told(deed + "do 0 d 99;").busiest(), 99);
        edges.due("one each", Check.told(deed + "do 0 d 99;do 1 d 3;do 0 d 7;").busiest(), 3);
        edges.due("two of both", Check.told(deed + "do 0 d 3;do 0 d 7;do 1 d 7;").busiest(), 7);
        TwoLevel x = Check.told(deed + "do 0 d 5;do 0 d 5;do 1 d 2;do 1 d 2;do 0 d 0;do 0 d 0;do 1 d 0;do 0 d 9;");
        edges.due("three on DAY 0", x.busiest(), 0);
        x.go(1);
        edges.due("two each", x.busiest(), 2);
        x.go(2);
        edges.due("behind DAY 2", x.busiest(), 5);
        x.go(3);
        edges.due("behind DAY 5", x.busiest(), 9);
        edges.says("-2: nothing is.");
        x.go(3);
        edges.due("on DAY 9", x.busiest(), 9);
        x.go(1);
        edges.due("behind DAY 9", x.busiest(), -2);
        edges.due("nothing is told", new TwoLevel().busiest(), -2);
    }

    private static TwoLevel full(int many) {
        TwoLevel x = Check.told(TEXT);
        for (int i = 0; i < many; i++) {
            if (i % 3 == 0) {
                x.note(0, 0, false);
            } else if (i % 3 == 1) {
                x.see(1, 0, 0, true);
            } else {
                x.strike(0);
            }
        }
        return x;
    }

    private void note() {
        edges.promise(38, "note");
        edges.says("A NOTE: its number;");
        edges.due("the first", full(0).note(1, 999, true), 0);
        edges.due("the sixth", full(5).note(0, -999, false), 5);
        edges.due("the last", full(23).note(0, 0, true), 23);
        edges.says("NONE: no such ones, or there are 24 in all.");
        for (int kind : NO_TWOS) {
            edges.refused("note(" + kind + ", 0, true)", TEXT, y -> y.note(kind, 0, true), -1);
        }
        for (int amount : new int[] {-1000, 1000, MIN, MAX}) {
            edges.refused("note(0, " + amount + ", true)", TEXT, y -> y.note(0, amount, true), -1);
            edges.refused("note(0, " + amount + ", false)", TEXT, y -> y.note(0, amount, false), -1);
        }
        edges.refused("a 25th", () -> full(24), y -> y.note(0, 0, true), -1);
        edges.due("no KINDS", new TwoLevel().note(0, 0, true), -1);
    }

    private void see() {
        edges.promise(39, "see");
        edges.says("A SIGHT: its number;");
        edges.due("the first", full(0).see(1, 1, 0, true), 0);
        edges.due("the sixth", full(5).see(60, 0, 999, false), 5);
        edges.due("the last", full(23).see(1, 0, 0, true), 23);
        edges.says("NONE: no such ones, or there are 24 in all.");
        for (int kind : NO_TWOS) {
            edges.refused("see(1, " + kind + ", 0, true)", TEXT, y -> y.see(1, kind, 0, true), -1);
        }
        for (int gap : new int[] {-1, 1000, MIN, MAX}) {
            edges.refused("see(1, 0, " + gap + ", true)", TEXT, y -> y.see(1, 0, gap, true), -1);
        }
        for (int days : new int[] {0, 61, -1, MIN, MAX}) {
            edges.refused("see(" + days + ", 0, 0, true)", TEXT, y -> y.see(days, 0, 0, true), -1);
        }
        edges.refused("a 25th", () -> full(24), y -> y.see(1, 0, 0, true), -1);
        edges.due("no KINDS", new TwoLevel().see(1, 0, 0, true), -1);
    }

    private void strike() {
        edges.promise(40, "strike");
        edges.says("A STRIKE: its number;");
        edges.due("of the first", full(1).strike(0), 1);
        edges.due("of the last", full(5).strike(4), 5);
        edges.due("the last", full(23).strike(22), 23);
        TwoLevel x = full(3);
        x.known(0);
        edges.due("of one that isn't KNOWN", x.strike(2), 3);
        edges.says("NONE: no such one, or there are 24 in all.");
        for (int told : new int[] {5, 6, -1, MIN, MAX}) {
            edges.refused("strike(" + told + ") of 5", () -> full(5), y -> y.strike(told), -1);
        }
        edges.refused("strike(0) of none", TEXT, y -> y.strike(0), -1);
        edges.refused("a 25th", () -> full(24), y -> y.strike(0), -1);
    }

    private void known() {
        edges.promise(41, "known");
        edges.says("KNOWN by n from now on (-1: by all, also those to come): true;");
        TwoLevel x = Check.told("kind a 1 0;");
        edges.due("known(0) of none", x.known(0), true);
        x.note(0, 1, true);
        edges.due("one more isn't KNOWN", x.who(), 3);
        edges.due("count(10)", x.count(10), 0);
        edges.due("known(1)", x.known(1), true);
        edges.due("it is", x.who(), 0);
        x.strike(0);
        edges.due("its STRIKE isn't", x.who(), 0);
        edges.due("count(10)", x.count(10), 1);
        edges.due("known(-1)", x.known(-1), true);
        edges.due("its STRIKE is", x.who(), 3);
        edges.due("count(10)", x.count(10), 2);
        x.strike(1);
        edges.due("one to come is", x.who(), 0);
        edges.due("count(10)", x.count(10), 3);
        edges.due("known(0)", x.known(0), true);
        edges.due("none is", x.who(), 3);
        edges.due("known(24) of 24", full(24).known(24), true);
        edges.says("false: no such n.");
        for (int n : new int[] {6, 7, 24, 25, -2, MIN, MAX}) {
            edges.refused("known(" + n + ") of 5", () -> full(5), y -> y.known(n) ? 1 : 0, 0);
            TwoLevel y = full(5);
            y.known(3);
            edges.due("known(" + n + ")", y.known(n), false);
            edges.due("still by 3", y.count(10), 3);
        }
        edges.due("known(25) of 24", full(24).known(25), false);
        edges.due("known(1) of none", full(0).known(1), false);
    }

    private void who() {
        edges.promise(42, "who");
        edges.says("WHO (bits).");
        TwoLevel x = Check.told(TEXT);
        edges.due("both", x.who(), 3);
        x.note(1, 1, false);
        edges.due("TWIN 1", x.who(), 2);
        x.note(1, 10, true);
        edges.due("none", x.who(), 0);
        x.strike(0);
        edges.due("TWIN 0", x.who(), 1);
        edges.due("no KINDS", new TwoLevel().who(), 3);

        edges.promise(43, "healings");
        edges.says("HEALINGS (bits);");
        edges.due("all", Check.told(TEXT).healings(1), 1023);
        x.see(20, 0, 1, false);
        edges.due("a by 1 at least", x.healings(0), 1022);
        x.see(1, 1, 10, true);
        edges.due("b by 0", x.healings(1), 1);
        edges.says("NONE: no such KIND.");
        for (int kind : NO_TWOS) {
            edges.refused("healings(" + kind + ")", TEXT, y -> y.healings(kind), -1);
        }
        edges.due("no KINDS", new TwoLevel().healings(0), -1);
    }

    /** How many of ten times all of so many in a row come OFF, drawn from the seed on. */
    private static int byHand(long seed, int row, int odds) {
        int times = 0;
        for (int i = 0; i < 10; i++) {
            boolean all = true;
            for (int j = 0; j < row; j++) {
                all &= Edges.number(seed, i * row + j) < odds;
            }
            times += all ? 1 : 0;
        }
        return times;
    }

    private void chance() {
        edges.promise(44, "chance");
        edges.says("In how many of ten times drawn (numbers from a seed 0 .. 2147483647 on, one behind another; n 1 .. 99 DAYS from"
                + " now) APART is so much 0 .. 9999 at most then;");
        for (int seed : new int[] {0, 1, 5, 65536, 123456789, MAX - 1, MAX}) {
            TwoLevel x = Check.told("kind a 1 0;deed d a 1 0 60;do 0 d 2;do 0 d 3;do 0 d 4;seed 9;law apart 3-gap;");
            String before = Edges.seen(x);
            for (int n = 1; n <= 5; n++) {
                int row = Math.max(0, n - 2);
                edges.due("APART 0 behind " + n + " of seed " + seed, x.chance(seed, n, 0), n < 5 ? 0 : byHand(seed, 3, 60));
                edges.due("APART 3 - " + row + " behind " + n + " of seed " + seed, x.chance(seed, n, 3 - row), byHand(seed, row, 60));
                edges.due("APART 3 behind " + n + " of seed " + seed, x.chance(seed, n, 3), 10);
            }
            edges.same("what is seen", Edges.seen(x), before);
            x.go(2);
            edges.due("from now on", x.chance(seed, 1, 2), byHand(seed, 1, 60));
            edges.due("from now on", x.chance(seed, 99, 1), atLeastTwo(seed));
            TwoLevel y = Check.told("kind a 1 0;deed d a 1 0 60;do 0 d 2;do 0 d 3;do 0 d 4;seed 9;law apart 3-gap;");
            x.go(5);
            y.go(7);
            edges.same("its own numbers go on", Edges.seen(x), Edges.seen(y));
        }
        edges.due("APART 9999", Check.told("kind a 1 0;law apart 9999;").chance(0, 1, 9999), 10);
        edges.due("APART 9999 and 9998", Check.told("kind a 1 0;law apart 9999;").chance(0, 1, 9998), 0);
        edges.due("APART 19998", Check.told("kind a 1 0;kind b 1 0;law apart 9999;").chance(0, 1, 9999), 0);
        edges.due("APART 0", Check.told("kind a 1 0;").chance(0, 99, 0), 10);
        TwoLevel x = Check.told("kind a 1 0;has 0 a 99;law heal 1;");
        edges.due("98 behind one", x.chance(0, 1, 98), 10);
        edges.due("not 97", x.chance(0, 1, 97), 0);
        edges.due("0 behind 99", x.chance(0, 99, 0), 10);
        edges.due("1 behind 98", x.chance(0, 98, 0), 0);
        edges.says("NONE: no such ones.");
        for (int seed : new int[] {-1, MIN}) {
            edges.refused("chance(" + seed + ", 1, 0)", TEXT, y -> y.chance(seed, 1, 0), -1);
        }
        for (int n : new int[] {0, 100, -1, MIN, MAX}) {
            edges.refused("chance(0, " + n + ", 0)", TEXT, y -> y.chance(0, n, 0), -1);
        }
        for (int apart : new int[] {-1, 10000, MIN, MAX}) {
            edges.refused("chance(0, 1, " + apart + ")", TEXT, y -> y.chance(0, 1, apart), -1);
        }
    }

    /** Of three in a row. */
    private static int atLeastTwo(long seed) {
        int times = 0;
        for (int i = 0; i < 10; i++) {
            int off = 0;
            for (int j = 0; j < 3; j++) {
                off += Edges.number(seed, i * 3 + j) < 60 ? 1 : 0;
            }
            times += off >= 2 ? 1 : 0;
        }
        return times;
    }

    private void tried() {
        edges.promise(45, "tried");
        TwoLevel x = Check.told(TEXT);
        edges.says("TRIED (n 0 .. 200);");
        for (int what = 0; what <= 4; what++) {
            edges.due("tried(" + what + ", 0, 0)", x.tried(what, 0, 0), 16);
        }
        edges.due("nothing heals, 200", x.tried(0, 0, 200), 16);
        edges.due("all comes OFF, 200: cry", x.tried(1, 0, 200), 12);
        edges.due("TWIN 0 does nothing, 200", x.tried(2, 0, 200), 10);
        edges.due("TWIN 1 does nothing, 200", x.tried(2, 1, 200), 10);
        edges.due("no COST, 1: dog", x.tried(3, 0, 1), 13);
        edges.due("no WAGE, 200", x.tried(4, 0, 200), 10);
        edges.says("NONE: no such ones (i 0 of all but 2).");
        for (int what = 0; what <= 4; what++) {
            for (int n : new int[] {-1, 201, MIN, MAX}) {
                edges.due("tried(" + what + ", 0, " + n + ")", x.tried(what, 0, n), -1);
            }
            for (int i : new int[] {-1, 1, 2, MIN, MAX}) {
                if (what != 2 || i != 1) {
                    edges.due("tried(" + what + ", " + i + ", 0)", x.tried(what, i, 0), -1);
                }
            }
        }
        for (int what : new int[] {-1, 5, MIN, MAX}) {
            edges.refused("tried(" + what + ", 0, 0)", TEXT, y -> y.tried(what, 0, 0), -1);
        }
    }

    private void undo() {
        edges.promise(46, "undo");
        edges.says("The latest is undone: how many are left;");
        TwoLevel x = Check.told(TEXT);
        x.exchange(0);
        x.does(0, 1, true);
        edges.due("undo()", x.undo(), 1);
        edges.due("the DEED is", x.amount(1, 0), 10);
        edges.due("its COST is", x.twin(0, 0), 10);
        edges.due("the exchange isn't", x.amount(0, 0), -14);
        edges.due("undo()", x.undo(), 0);
        edges.due("the exchange is", x.amount(0, 0), -20);
        edges.says("NONE: none.");
        edges.refused("undo() of none", TEXT, y -> y.undo(), -1);
        edges.due("undo() of none any more", x.undo(), -1);
        edges.due("undo() of a new object", new TwoLevel().undo(), -1);
        x.give(0, 1);
        x.go(1);
        edges.due("undo() behind a DAY", x.undo(), -1);
    }

    private void keep() {
        edges.promise(47, "keep");
        edges.says("An IMAGE is kept (in place of one ahead): which DAY it is.");
        TwoLevel x = Check.told(TEXT);
        edges.due("keep()", x.keep(), 0);
        x.go(3);
        x.give(0, 1);
        edges.due("keep()", x.keep(), 3);
        edges.due("there is still something to undo", x.count(11), 1);
        x.go(5);
        edges.due("back()", x.back(), 3);
        edges.due("back() to the same", x.back(), 3);
        edges.refused("keep() changes nothing", TEXT, y -> y.keep(), 0);
    }

    private void back() {
        edges.promise(48, "back");
        edges.says("All (but NOTES and SIGHTS) is as in the IMAGE (nothing to undo then): which DAY it is;");
        TwoLevel x = Check.told(TEXT);
        x.give(0, 1);
        x.keep();
        x.go(9);
        edges.due("REFUSED behind it", x.count(8), 1);
        x.does(0, 0, true);
        edges.due("back()", x.back(), 0);
        TwoLevel y = Check.told(TEXT);
        y.give(0, 1);
        y.back();
        String plain = "^(counts( \\d+){11}) \\d+";
        edges.same("what is seen", Edges.seen(x).replaceFirst(plain, "$1"), Edges.seen(y).replaceFirst(plain, "$1"));
        edges.due("nothing to undo", x.count(11), 0);
        edges.due("nothing to undo", x.undo(), -1);
        x.note(0, 0, true);
        x.back();
        edges.due("NOTES stay", x.count(9), 1);
        edges.says("NONE: there is none.");
        edges.refused("back() of none", TEXT, z -> z.back(), -1);
        x = Check.told(TEXT);
        x.give(0, 1);
        edges.due("back() of none", x.back(), -1);
        edges.due("what can be undone stays", x.count(11), 1);
        x.keep();
        Check.tell(x, TEXT);
        edges.due("back() behind a TEXT", x.back(), -1);
    }

    private void count() {
        edges.promise(49, "count");
        edges.says("0 KINDS, 1 DEEDS, 2 how many are to be done by days, 3 KNOTS, 4 the DAY, 5 on how many DAYS LEVEL, 6 OFF,"
                + " 7 IN VAIN, 8 REFUSED so far (by days), 9 NOTES, SIGHTS and STRIKES, 10 by how many it is KNOWN, 11 what can be"
                + " undone.");
        TwoLevel x = Check.told("kind a 1 0;kind b 1 9;deed d a 1 5 100;deed e a 1 5 0;deed f b -9 0 100;do 0 d 0;do 0 e 0;"
                + "do 1 d 1;do 0 f 1;do 1 d 0;do 1 f 9;purse 0 10;law luck 1/0;");
        x.note(0, 1, true);
        x.strike(0);
        x.see(1, 0, 0, true);
        x.known(2);
        int[][] due = {{2, 3, 6, 3, 0, 0, 0, 0, 0, 3, 2, 0}, {2, 3, 6, 3, 1, 0, 1, 1, 1, 3, 2, 0},
            {2, 3, 6, 3, 2, 0, 2, 1, 2, 3, 2, 0}};
        for (int day = 0; day < 3; day++) {
            for (int what = 0; what < 12; what++) {
                edges.due("count(" + what + ") on DAY " + day, x.count(what), due[day][what]);
            }
            x.go(1);
        }
        x.exchange(0);
        x.does(0, 0, true);
        x.does(0, 1, false);
        x.give(0, 1);
        edges.due("count(6) by days", x.count(6), 2);
        edges.due("count(7) by days", x.count(7), 1);
        edges.due("count(8) by days", x.count(8), 2);
        edges.due("count(11): the exchange and the gift", x.count(11), 2);
        x = Check.told("kind a 1 1;has 0 a 2;");
        x.go(5);
        edges.due("count(5)", x.count(5), 4);
        edges.says("NONE for another what.");
        for (int what : new int[] {-1, 12, MIN, MAX}) {
            edges.due("count(" + what + ")", x.count(what), -1);
        }
    }
}
