/** Promises 23 to 30, 32 and 34 to 37: what is seen, best, likely, happier, meant, paid, healed, due. */
final class LookTest {
    private static final Check CHECK = new Check("LookTest");
    private static final int MIN = Integer.MIN_VALUE;

    public static void main(String[] args) {
        signs();
        best();
        game();
        sure();
        happier();
        mean();
        payers();
        healed();
        due();
        CHECK.end();
    }

    private static void signs() {
        TwoLevel x = Check.told("kind a 3 0;kind b 2 0;kind c 9 0;kind d 0 0;"
                + "has 0 a 2;has 1 a 5;has 0 b 9;has 1 b 4;has 1 c 1;has 0 d 99;");
        // gap times shows: 9, 10, 9, 0
        CHECK.due("sign()", x.sign(), 1);
        CHECK.due("tells()", x.tells(), 2);
        CHECK.due("wanted(0)", x.wanted(0), 1 + 4);
        CHECK.due("wanted(1)", x.wanted(1), 2 + 8);
        CHECK.due("wanted(2)", x.wanted(2), -1);
        CHECK.due("wanted(-1)", x.wanted(-1), -1);
        x.exchange(1);
        CHECK.due("wanted(0) behind the exchange", x.wanted(0), 1 + 2 + 4);
        CHECK.due("sign() stays", x.sign(), 1);
        x = Check.told("kind a 3 0;kind b 5 0;has 0 a 5;has 1 b 3;");
        CHECK.due("the first of several", x.sign(), 0);
        CHECK.due("both tell", x.tells(), 3);
        CHECK.due("none shows: gap 0", Check.told("kind a 3 0;has 0 a 5;has 1 a 5;").sign(), -2);
        CHECK.due("none shows: shows 0", Check.told("kind a 0 0;has 0 a 5;").sign(), -2);
        CHECK.due("there are no kinds", new TwoLevel().sign(), -1);
        CHECK.due("tells() of none", new TwoLevel().tells(), 0);
    }

    private static void best() {
        TwoLevel x = Check.told("kind a 1 0;kind b 1 0;has 0 a 5;has 1 b 5;"
                + "deed z b -9 0 0;deed y a -2 9 0;deed x b 2 8 0;deed w b 2 8 0;deed v a -1 0 0;");
        CHECK.due("least cost, then the first", x.best(0), 2);
        // of twin 1 all go away from it, but z: 5 becomes -4
        CHECK.due("of twin 1", x.best(1), 0);
        CHECK.due("best(2)", x.best(2), -1);
        CHECK.due("best(-1)", x.best(-1), -1);
        CHECK.due("no deeds", Check.told("kind a 1 0;").best(0), -2);
        CHECK.due("no deeds, no such twin", Check.told("kind a 1 0;").best(2), -1);
        x = Check.told("kind a 1 0;has 0 a 5;deed up a 5 0 0;deed down a -5 0 0;law apart own+90;");
        CHECK.due("by law", x.best(0), 1);
        // at 999 up is as none: apart is alike, the one of least cost counts
        x = Check.told("kind a 1 0;has 0 a 99;deed up a 9 5 0;deed no a 0 6 0;purse 0 999;law apart 1000-own;");
        CHECK.due("up", x.best(0), 0);
        for (int i = 0; i < 101; i++) {
            x.does(0, 0, true);
        }
        CHECK.due("bounds are looked at", x.best(0), 0);
        CHECK.due("all stays", x.amount(0, 0), 999);
    }

    /** The rests as they come, -2 behind the last one. */
    private static void rests(String text, int... due) {
        TwoLevel x = Check.told(text);
        CHECK.due("rests() of " + text, x.rests(), due.length);
        for (int k = 0; k < due.length; k++) {
            CHECK.due("rest(" + k + ") of " + text, x.rest(k), due[k]);
        }
        CHECK.due("rest behind the last of " + text, x.rest(due.length), -2);
        CHECK.due("rest(-1) of " + text, x.rest(-1), -1);
    }

    private static void game() {
        // apart 0, happy 0: 10 10 | 0 5 | 5 0 | 0 0
        rests("kind a 1 0;", 0, 11);
        // apart 5: 5 5 | 0 5 | 5 0 | 0 0: none has more in any
        rests("kind a 1 0;has 0 a 2;has 1 a -3;", 0, 1, 10, 11);
        // apart 6, happy -10 and -4: 4 4 | 0 5 | 5 0 | -1 0
        rests("kind a 1 0;has 0 a -10;has 1 a -4;", 1, 10);
        // apart 0, happy 60 both: 10 10 | 0 12 | 12 0 | 6 6
        rests("kind a 1 0;has 0 a 60;has 1 a 60;", 11);
        // apart 0, happy 50 both: 10 10 | 0 10 | 10 0 | 5 5
        rests("kind a 1 0;has 0 a 50;has 1 a 50;", 0, 11);
        // apart 0 by law, happy -30 and 40: 10 10 | 0 8 | 5 0 | -3 4
        rests("kind a 1 0;has 0 a -30;has 1 a 40;law apart 0;", 0);
        // apart 39, happy -39 and 0: 0 0 | -3 5 | 5 -3 | -3 0
        rests("kind a 1 0;has 0 a -39;", 1, 11);
        // apart 40, happy -39 and 1: 0 0 | -4 5 | 5 -4 | -3 0
        rests("kind a 1 0;has 0 a -39;has 1 a 1;", 11);
    }

    private static void sure() {
        TwoLevel x = Check.told("kind a 1 0;deed d a 1 1 60;deed e a 1 1 0;deed f a 1 1 100;deed g a 1 1 99;deed h a 1 1 50;");
        long[][] due = {{0, 0, 1, 1}, {0, 1, 3, 5}, {0, 2, 9, 25}, {1, 0, 1, 1}, {1, 1, 0, 1}, {1, 6, 0, 1},
            {2, 3, 1, 1}, {3, 6, 941480149401L, 1000000000000L}, {4, 6, 1, 64}};
        for (long[] d : due) {
            CHECK.due("sure(" + d[0] + ", " + d[1] + ", 0)", x.sure((int) d[0], (int) d[1], 0), d[2]);
            CHECK.due("sure(" + d[0] + ", " + d[1] + ", 1)", x.sure((int) d[0], (int) d[1], 1), d[3]);
        }
        int[][] wrong = {{5, 1, 0}, {-1, 1, 0}, {0, 7, 0}, {0, -1, 0}, {0, 1, 2}, {0, 1, -1}};
        for (int[] w : wrong) {
            CHECK.due("sure(" + w[0] + ", " + w[1] + ", " + w[2] + ")", x.sure(w[0], w[1], w[2]), -1);
        }
    }

    private static void happier() {
        TwoLevel x = Check.told("kind a 1 0;kind b 1 0;has 0 a 9;has 1 b 8;");
        CHECK.due("happier()", x.happier(), 0);
        x.exchange(0);
        CHECK.due("happier() behind the exchange", x.happier(), 1);
        CHECK.due("both alike", Check.told("kind a 1 0;kind b 1 0;has 0 a 9;has 1 b 9;").happier(), -2);
    }

    private static void mean() {
        TwoLevel x = Check.told("kind a 1 0;kind b 1 0;deed d a 3 0 20;deed e a -5 0 50;deed f b 4 0 75;deed g a 6 0 10;"
                + "do 0 d 0;do 0 e 2;do 0 f 1;do 1 d 1;do 0 d 3;do 1 g 1;do 0 f 99;");
        int[][] due = {{0, 0, 0, 0, 1}, {0, 0, 1, 3, 5}, {0, 0, 2, 3, 5}, {0, 0, 3, -19, 10}, {0, 0, 4, -13, 10},
            {1, 0, 1, 0, 1}, {1, 0, 2, 3, 1}, {1, 0, 99, 3, 1}, {0, 1, 1, 0, 1}, {0, 1, 9, 6, 5}, {1, 1, 9, 0, 1}};
        for (int[] d : due) {
            CHECK.due("mean(" + d[0] + ", " + d[1] + ", " + d[2] + ", 0)", x.mean(d[0], d[1], d[2], 0), d[3]);
            CHECK.due("mean(" + d[0] + ", " + d[1] + ", " + d[2] + ", 1)", x.mean(d[0], d[1], d[2], 1), d[4]);
        }
        int[][] wrong = {{2, 0, 1, 0}, {-1, 0, 1, 0}, {0, 2, 1, 0}, {0, -1, 1, 0}, {0, 0, 100, 0}, {0, 0, -1, 0},
            {0, 0, 1, 2}, {0, 0, 1, -1}};
        for (int[] w : wrong) {
            CHECK.due("mean(" + w[0] + ", " + w[1] + ", " + w[2] + ", " + w[3] + ")", x.mean(w[0], w[1], w[2], w[3]), MIN);
        }
        x.go(1);
        CHECK.due("from the day on", x.mean(0, 0, 2, 0), -5);
        CHECK.due("from the day on", x.mean(0, 0, 2, 1), 2);
        CHECK.due("up to day 99", x.mean(1, 0, 99, 0), 6);
        // 3 times 20 and -6 times 10 are 0 in sum
        x = Check.told("kind a 1 0;deed d a 3 0 20;deed e a -6 0 10;do 0 d 0;do 0 e 0;");
        CHECK.due("0 in sum", x.mean(0, 0, 1, 0), 0);
        CHECK.due("by 1", x.mean(0, 0, 1, 1), 1);
    }

    private static void payers() {
        TwoLevel x = Check.told("kind a 1 0;deed d a 1 5 1;deed e a 1 6 1;deed f a 1 7 1;deed g a 1 0 1;purse 0 6;purse 1 5;");
        int[] due = {3, 1, 0, 3};
        for (int deed = 0; deed < 4; deed++) {
            CHECK.due("payers(" + deed + ")", x.payers(deed), due[deed]);
        }
        x.give(1, 2);
        CHECK.due("payers(2)", x.payers(2), 2);
        CHECK.due("payers(4)", x.payers(4), -1);
        CHECK.due("payers(-1)", x.payers(-1), -1);
    }

    private static void healed() {
        TwoLevel x = Check.told("kind a 1 3;kind b 1 0;kind c 1 0;kind d 1 9;kind e 1 3;has 0 a 6;has 1 a -7;has 0 b 1;"
                + "has 1 d 1;has 0 e -9;law heal 9;");
        int[] due = {3, -2, 0, 1, 3};
        for (int kind = 0; kind < 5; kind++) {
            CHECK.due("healed(" + kind + ")", x.healed(kind), due[kind]);
        }
        CHECK.due("healed(5)", x.healed(5), -1);
        CHECK.due("healed(-1)", x.healed(-1), -1);
    }

    private static void due() {
        TwoLevel x = Check.told("kind a 1 0;deed d a 1 5 100;deed e a 1 7 100;"
                + "do 0 d 4;do 1 e 4;do 0 e 2;do 1 d 2;do 0 e 0;do 0 d 9;");
        CHECK.due("due(0)", x.due(0), 24);
        CHECK.due("due(1)", x.due(1), 12);
        CHECK.due("due(2)", x.due(2), -1);
        CHECK.due("due(-1)", x.due(-1), -1);
        CHECK.due("the first of several days", x.busiest(), 2);
        x.go(1);
        CHECK.due("due(0) behind day 0, refused", x.due(0), 17);
        x.go(2);
        CHECK.due("due(0) behind day 2", x.due(0), 10);
        CHECK.due("due(1) behind day 2", x.due(1), 7);
        CHECK.due("busiest() behind day 2", x.busiest(), 4);
        x.go(2);
        CHECK.due("busiest() behind day 4", x.busiest(), 9);
        x.go(5);
        CHECK.due("due(0) behind all", x.due(0), 0);
        CHECK.due("busiest() behind all", x.busiest(), -2);
    }
}
