/** Promises 17 to 22, 31 and 33: what comes, and what is to be done that they are level. */
final class AheadTest {
    private static final Check CHECK = new Check("AheadTest");
    private static final int MIN = Integer.MIN_VALUE;

    public static void main(String[] args) {
        aheads();
        next();
        cheap();
        reach();
        plans();
        planEdges();
        nearest();
        CHECK.end();
    }

    /** Day 0: sad comes off (50), 2 - 2 = 0 of twin 1; day 1: joy doesn't (49); day 2: joy is refused to twin 1. */
    private static final String TEXT = "kind a 2 1;has 0 a 5;has 1 a 5;deed sad a -3 2 50;deed joy a 9 4 49;"
            + "do 1 sad 0;do 0 joy 1;do 1 joy 2;purse 0 5;purse 1 4;wage 0 1;";

    private static void aheads() {
        TwoLevel x = Check.told(TEXT);
        int[] aparts = {0, 3, 3, 2, 1, 0, 0};
        int[] levels = {0, 0, 0, 0, 0, 1, 2};
        int[] firstPurses = {5, 6, 3, 4, 5, 6, 7};
        int[] firstHappy = {5, 4, 3, 2, 1, 0, 0};
        int[] secondHappy = {5, 1, 0, 0, 0, 0, 0};
        for (int n = 0; n <= 6; n++) {
            CHECK.due("ahead(" + n + ", 0, 9)", x.ahead(n, 0, 9), aparts[n]);
            CHECK.due("ahead(" + n + ", 1, -1)", x.ahead(n, 1, -1), levels[n]);
            CHECK.due("ahead(" + n + ", 2, 0)", x.ahead(n, 2, 0), firstPurses[n]);
            CHECK.due("ahead(" + n + ", 2, 1)", x.ahead(n, 2, 1), n == 0 ? 4 : 2);
            CHECK.due("ahead(" + n + ", 3, 0)", x.ahead(n, 3, 0), firstHappy[n]);
            CHECK.due("ahead(" + n + ", 3, 1)", x.ahead(n, 3, 1), secondHappy[n]);
            CHECK.due("ahead(" + n + ", 4, 5)", x.ahead(n, 4, 5), n == 0 ? 0 : 1);
        }
        CHECK.due("all stays", x.count(4) + x.count(5) + x.count(6), 0);
        int[][] wrong = {{-1, 0, 0}, {201, 0, 0}, {1, 5, 0}, {1, -1, 0}, {1, 2, 2}, {1, 3, -1}};
        for (int[] w : wrong) {
            CHECK.due("ahead(" + w[0] + ", " + w[1] + ", " + w[2] + ")", x.ahead(w[0], w[1], w[2]), MIN);
        }
        CHECK.due("ahead(200, 1, 0)", x.ahead(200, 1, 0), 196);
        x = Check.told("kind a 1 0;deed d a 1 0 100;do 0 d 0;do 0 d 2;");
        x.go(1);
        CHECK.due("more from now on", x.ahead(3, 4, 0), 1);
        CHECK.due("by law", Check.told("kind a 1 1;has 0 a 9;law apart gap*10+day;").ahead(2, 0, 0), 72);
        CHECK.due("luck by law", Check.told("kind a 1 0;deed d a 1 0 99;do 0 d 0;law luck 49;").ahead(1, 4, 0), 0);
        CHECK.due("luck by law", Check.told("kind a 1 0;deed d a 1 0 0;do 0 d 0;law luck 50;").ahead(1, 4, 0), 1);
    }

    private static void next() {
        TwoLevel x = Check.told(TEXT);
        CHECK.due("nextLevel(): now", x.nextLevel(), 0);
        CHECK.due("nextOut()", x.nextOut(), 1);
        x.does(0, 0, true);
        CHECK.due("nextOut(): now", x.nextOut(), 0);
        CHECK.due("nextLevel() behind sad", x.nextLevel(), 1);
        x = Check.told("kind a 1 0;kind b 1 1;has 1 a 1;has 0 b 2;");
        CHECK.due("never level", x.nextLevel(), -2);
        x = Check.told("kind a 1 0;deed d a 1 0 100;do 0 d 99;");
        CHECK.due("out behind day 99", x.nextOut(), 100);
        x = Check.told("kind a 1 1;");
        CHECK.due("never out", x.nextOut(), -2);
        String slow = "kind a 1 0;has 0 a 1;law heal day=";
        CHECK.due("in 199 days", Check.told(slow + "198;").nextLevel(), 199);
        CHECK.due("not in 200", Check.told(slow + "199;").nextLevel(), -2);
    }

    private static void cheap() {
        TwoLevel x = Check.told("kind a 1 0;kind b 1 0;has 0 a 7;deed up a 3 5 0;deed down a -1 9 0;deed far b 7 0 0;");
        // 7 is evened by up of twin 1 twice and down of twin 0 once
        CHECK.due("cheap(0)", x.cheap(0), 19);
        CHECK.due("few(0)", x.few(0), 3);
        CHECK.due("cheap(1): level", x.cheap(1), 0);
        CHECK.due("few(1): level", x.few(1), 0);
        CHECK.due("alone(0, 0)", x.alone(0, 0), 63);
        // twin 1 alone: up three times is 9, then down twice
        CHECK.due("alone(0, 1)", x.alone(0, 1), 33);
        CHECK.due("cheap(2)", x.cheap(2), -1);
        CHECK.due("cheap(-1)", x.cheap(-1), -1);
        CHECK.due("few(2)", x.few(2), -1);
        CHECK.due("few(-1)", x.few(-1), -1);
        CHECK.due("alone(2, 0)", x.alone(2, 0), -1);
        CHECK.due("alone(-1, 0)", x.alone(-1, 0), -1);
        CHECK.due("alone(0, 2)", x.alone(0, 2), -1);
        CHECK.due("alone(0, -1)", x.alone(0, -1), -1);
        x = Check.told("kind a 1 0;has 1 a 5;deed two a 2 1 0;");
        CHECK.due("by none: odd", x.cheap(0), -2);
        CHECK.due("by none: odd", x.few(0), -2);
        CHECK.due("by none: no deeds", Check.told("kind a 1 0;has 1 a 5;").cheap(0), -2);
        x = Check.told("kind a 1 0;has 1 a 6;deed two a 2 1 0;");
        CHECK.due("twin 0 rises", x.alone(0, 0), 3);
        CHECK.due("twin 1 can't fall", x.alone(0, 1), -2);
        x = Check.told("kind a 1 0;has 1 a 6;deed one a 1 1 0;deed six a 6 7 0;");
        CHECK.due("many small ones are cheaper", x.cheap(0), 6);
        CHECK.due("one large one is fewer", x.few(0), 1);
    }

    /** What twin 0 has more stays from -200 to 200. */
    private static void reach() {
        TwoLevel x = Check.told("kind a 1 0;has 0 a 99;has 1 a -98;deed up a 9 1 0;deed down a -8 1 0;deed one a 1 0 0;");
        CHECK.due("197", x.kind(0, 2), 197);
        CHECK.due("cheap(0)", x.cheap(0), 0);
        x.does(0, 2, true);
        x.does(0, 2, true);
        x.does(0, 2, true);
        CHECK.due("200", x.cheap(0), 0);
        x.does(0, 2, true);
        CHECK.due("201", x.cheap(0), -2);
        CHECK.due("201", x.few(0), -2);
        CHECK.due("201", x.alone(0, 0), -2);
        x = Check.told("kind a 1 0;has 0 a -98;has 1 a 99;deed one a 1 0 0;");
        for (int more = 197; more <= 201; more++) {
            CHECK.due("twin 1 has more by " + more, x.few(0), more <= 200 ? more : -2);
            x.does(1, 0, true);
        }
        // 195 and 9s alone: 200 would have to be passed
        x = Check.told("kind a 1 0;has 0 a 99;has 1 a -96;deed up a 7 1 0;deed big a 9 1 0;");
        CHECK.due("alone(0, 0): only away", x.alone(0, 0), -2);
        CHECK.due("alone(0, 1)", x.alone(0, 1), 23);
    }

    private static void plans() {
        // one kind, no healing: down by 4 for 3, by 1 for 1
        TwoLevel x = Check.told("kind a 1 0;has 0 a 9;deed four a -4 3 0;deed one a -1 1 0;purse 0 7;");
        CHECK.due("plan(0, 1, 0)", x.plan(0, 1, 0), 0);
        CHECK.due("plan(0, 1, 4)", x.plan(0, 1, 4), 5);
        CHECK.due("plan(0, 1, 1): not so many days", x.plan(0, 1, 1), -2);
        int[] best = {0, 0, 1};
        for (int day = 0; day < 3; day++) {
            CHECK.due("plan(0, 3, " + day + ")", x.plan(0, 3, day), best[day]);
        }
        CHECK.due("plan(0, 3, 3)", x.plan(0, 3, 3), -2);
        CHECK.due("plan(0, 3, 4)", x.plan(0, 3, 4), 0);
        // of four days none is first
        int[] four = {-2, 0, 0, 1, 0};
        for (int what = 0; what <= 4; what++) {
            CHECK.due("plan(0, 4, " + what + ")", x.plan(0, 4, what), four[what]);
        }
        // twin 1 would have to rise, and has no purse
        CHECK.due("plan(1, 2, 0)", x.plan(1, 2, 0), -2);
        CHECK.due("plan(1, 2, 4)", x.plan(1, 2, 4), 9);
        x.give(0, 9);
        x.does(0, 0, true);
        CHECK.due("found anew", x.plan(0, 1, 4), 1);
        x.undo();
        CHECK.due("found anew behind undo", x.plan(0, 1, 4), 5);
        x.keep();
        x.exchange(0);
        CHECK.due("found anew behind exchange", x.plan(0, 1, 4), 9);
        x.back();
        CHECK.due("found anew behind back", x.plan(0, 1, 4), 5);
        Check.tell(x, "kind a 1 0;has 0 a 7;deed d a -1 0 0;do 0 d 0;law luck 100;");
        CHECK.due("found anew behind a text", x.plan(0, 1, 4), 5);
        Check.tell(x, "kind a 1 0;has 0 a 8;deed d a -1 0 0;do 0 d 0;law luck 100;");
        CHECK.due("found anew behind another text", x.plan(0, 1, 4), 6);
        x.go(1);
        CHECK.due("found anew behind a day", x.plan(0, 1, 4), 6);
        x.go(1);
        x.does(0, 0, true);
        CHECK.due("plan(0, 1, 4)", x.plan(0, 1, 4), 5);
        Check.tell(x, "kind a 1 1;has 0 a 8;");
        CHECK.due("plan(0, 2, 4)", x.plan(0, 2, 4), 6);
        x.go(1);
        CHECK.due("found anew behind a day that heals", x.plan(0, 2, 4), 5);
        int[][] wrong = {{2, 1, 0}, {-1, 1, 0}, {0, 0, 0}, {0, 5, 0}, {0, 1, 5}, {0, 1, -1}};
        for (int[] w : wrong) {
            CHECK.due("plan(" + w[0] + ", " + w[1] + ", " + w[2] + ")", x.plan(w[0], w[1], w[2]), -1);
        }
    }

    private static void planEdges() {
        // ahead of (1): what is done by days is paid behind it
        TwoLevel x = Check.told("kind a 1 0;has 0 a 3;deed d a -3 5 0;deed e a -9 5 100;do 0 e 0;purse 0 5;");
        CHECK.due("it is paid first", x.plan(0, 1, 4), 0);
        CHECK.due("it is paid first", x.plan(0, 1, 0), 0);
        // wages of the days ahead pay
        x = Check.told("kind a 1 0;has 0 a 3;deed d a -3 5 0;wage 0 5;");
        CHECK.due("plan(0, 1, 4)", x.plan(0, 1, 4), 3);
        CHECK.due("plan(0, 2, 4)", x.plan(0, 2, 4), 0);
        CHECK.due("plan(0, 2, 0)", x.plan(0, 2, 0), -2);
        CHECK.due("plan(0, 2, 1)", x.plan(0, 2, 1), 0);
        // healing comes behind: 4 of 1 heals 1, so what is left of 5 is 0 by none and a deed of two alike
        x = Check.told("kind a 1 1;has 0 a 5;deed d a -4 0 0;deed e a -4 0 0;");
        CHECK.due("of several the first", x.plan(0, 1, 0), 0);
        CHECK.due("none is ahead of deeds", x.plan(0, 2, 0), -2);
        CHECK.due("then a deed", x.plan(0, 2, 1), 0);
        CHECK.due("plan(0, 2, 4)", x.plan(0, 2, 4), 0);
        x = Check.told("kind a 1 0;deed d a 5 0 0;law apart 20-own;");
        int[] all = {0, 0, 0, 0, 0};
        for (int what = 0; what <= 4; what++) {
            CHECK.due("plan by law " + what, x.plan(0, 4, what), all[what]);
        }
    }

    private static void nearest() {
        TwoLevel x = Check.told("kind a 1 0;kind b 1 1;has 0 a 4;has 1 b 3;deed d a -3 0 100;deed e b -9 0 100;do 0 d 3;do 1 e 5;");
        // apart: 7, 6, 5, 4, 1, 1, 9 + 1, 9, 8 ..
        CHECK.due("nearest(0, 0)", x.nearest(0, 0), 0);
        CHECK.due("nearest(0, 1)", x.nearest(0, 1), 7);
        CHECK.due("nearest(3, 0)", x.nearest(3, 0), 3);
        CHECK.due("nearest(3, 1)", x.nearest(3, 1), 4);
        CHECK.due("the first of several", x.nearest(5, 0), 4);
        CHECK.due("nearest(5, 1)", x.nearest(5, 1), 1);
        CHECK.due("nearest(200, 0)", x.nearest(200, 0), 4);
        CHECK.due("nearest(201, 0)", x.nearest(201, 0), -1);
        CHECK.due("nearest(-1, 0)", x.nearest(-1, 0), -1);
        CHECK.due("nearest(5, 2)", x.nearest(5, 2), -1);
        CHECK.due("nearest(5, -1)", x.nearest(5, -1), -1);
    }
}
