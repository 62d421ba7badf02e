/** Promises 13 to 16: doing, giving, exchanging by call, and what a day brings. */
final class DayTest {
    private static final Check CHECK = new Check("DayTest");

    public static void main(String[] args) {
        does();
        gives();
        exchanges();
        going();
        luck();
        luckLaw();
        healing();
        wages();
        bounds();
        CHECK.end();
    }

    private static void does() {
        TwoLevel x = Check.told("kind a 1 0;kind b 1 0;deed d b 3 5 0;deed e a -4 0 0;purse 0 12;");
        CHECK.due("does(0, 0, true)", x.does(0, 0, true), 7);
        CHECK.due("it came off", x.amount(1, 0), 3);
        CHECK.due("of that kind alone", x.amount(0, 0), 0);
        CHECK.due("does(0, 0, false)", x.does(0, 0, false), 2);
        CHECK.due("it didn't", x.amount(1, 0), 3);
        CHECK.due("hasn't the cost", x.does(0, 0, true), -2);
        CHECK.due("nothing came of it", x.amount(1, 0), 3);
        CHECK.due("does(1, 1, true)", x.does(1, 1, true), 0);
        CHECK.due("of the other", x.amount(0, 1), -4);
        CHECK.due("does(2, 0, true)", x.does(2, 0, true), -1);
        CHECK.due("does(-1, 0, true)", x.does(-1, 0, true), -1);
        CHECK.due("does(0, 2, true)", x.does(0, 2, true), -1);
        CHECK.due("does(0, -1, true)", x.does(0, -1, true), -1);
        CHECK.due("three can be undone", x.count(11), 3);
        CHECK.due("off by days", x.count(6), 0);
        CHECK.due("in vain by days", x.count(7), 0);
        CHECK.due("refused by days", x.count(8), 0);
    }

    private static void gives() {
        TwoLevel x = Check.told("purse 1 999;");
        CHECK.due("give(0, 1)", x.give(0, 1), 1);
        CHECK.due("give(0, 99)", x.give(0, 99), 100);
        CHECK.due("give(0, 0)", x.give(0, 0), -1);
        CHECK.due("give(0, 100)", x.give(0, 100), -1);
        CHECK.due("give(2, 1)", x.give(2, 1), -1);
        CHECK.due("give(-1, 1)", x.give(-1, 1), -1);
        for (int i = 1; i <= 90; i++) {
            CHECK.due("give(1, 99)", x.give(1, 99), 999 + 99 * i);
        }
        CHECK.due("9909", x.give(1, 90), 9999);
        CHECK.due("9999 at most", x.give(1, 1), 9999);
        CHECK.due("20 at most", x.count(11), 20);
    }

    private static void exchanges() {
        TwoLevel x = Check.told("kind a 1 0;kind b 1 0;has 0 a 5;has 1 a -7;has 0 b 2;has 1 b 2;");
        CHECK.due("exchange(0)", x.exchange(0), true);
        CHECK.due("amount(0, 0)", x.amount(0, 0), -7);
        CHECK.due("amount(0, 1)", x.amount(0, 1), 5);
        CHECK.due("exchange(1): gap is 0", x.exchange(1), false);
        CHECK.due("exchange(2)", x.exchange(2), false);
        CHECK.due("exchange(-1)", x.exchange(-1), false);
        CHECK.due("one can be undone", x.count(11), 1);
    }

    private static void going() {
        TwoLevel x = Check.told("kind a 1 0;");
        CHECK.due("go(0)", x.go(0), 0);
        CHECK.due("go(-1)", x.go(-1), -1);
        CHECK.due("go(201)", x.go(201), -1);
        CHECK.due("go(1)", x.go(1), 1);
        for (int i = 1; i <= 44; i++) {
            CHECK.due("go(200)", x.go(200), 1 + 200 * i);
        }
        CHECK.due("behind 9000", x.go(200), -1);
        CHECK.due("none went by", x.count(4), 8801);
        CHECK.due("up to 9000", x.go(199), 9000);
        CHECK.due("go(1) behind it", x.go(1), -1);
        CHECK.due("go(0) on it", x.go(0), 9000);
        CHECK.due("level on all days", x.count(5), 9000);
        CHECK.due("ahead goes on", x.ahead(200, 1, 0), 200);
    }

    /** Of seed 0 the numbers modulo 100 are 0, 68, 88, 17, 98, 27, 45, 41. */
    private static void luck() {
        TwoLevel x = Check.told("kind a 1 0;deed sure a 1 0 100;deed never a 1 0 0;deed half a 1 0 50;"
                + "deed less a 1 0 68;deed more a 1 0 89;do 0 sure 0;do 0 half 0;do 0 never 0;do 1 less 0;do 1 more 0;"
                + "do 1 half 2;do 1 half 1;seed 0;");
        CHECK.due("go(1)", x.go(1), 1);
        int[] outcomes = {1, 1, 2, 2, 1, 0, 0};
        for (int i = 0; i < 7; i++) {
            CHECK.due("done(" + i + ", 3)", x.done(i, 3), outcomes[i]);
        }
        CHECK.due("off", x.count(6), 3);
        CHECK.due("in vain", x.count(7), 2);
        x.go(2);
        CHECK.due("17 on day 1", x.done(6, 3), 1);
        CHECK.due("98 on day 2", x.done(5, 3), 2);
        CHECK.due("amount(0, 0)", x.amount(0, 0), 2);
        CHECK.due("amount(0, 1)", x.amount(0, 1), 2);
        // of seed 1 the first numbers are 16838, 5758, 10113
        x = Check.told("kind a 1 0;deed d a 1 0 38;deed e a 1 0 59;deed f a 1 0 13;do 0 d 0;do 0 e 0;do 0 f 0;seed 1;");
        x.go(1);
        CHECK.due("16838", x.done(0, 3), 2);
        CHECK.due("5758", x.done(1, 3), 1);
        CHECK.due("10113", x.done(2, 3), 2);
        // what is refused takes no number, what is in vain is paid
        x = Check.told("kind a 1 0;deed d a 1 5 50;do 1 d 0;do 0 d 0;do 0 d 0;do 0 d 0;purse 0 10;");
        x.go(1);
        CHECK.due("refused", x.done(0, 3), 3);
        CHECK.due("off by 0", x.done(1, 3), 1);
        CHECK.due("in vain by 68", x.done(2, 3), 2);
        CHECK.due("refused behind two", x.done(3, 3), 3);
        CHECK.due("both are paid", x.twin(0, 0), 0);
        CHECK.due("refused", x.count(8), 2);
    }

    private static void luckLaw() {
        String deeds = "kind a 4 3;has 0 a 5;deed d a 2 0 50;do 0 d 0;do 0 d 0;do 1 d 0;do 1 d 0;";
        // own 5, 7 and 0, 0: 100 and more takes no number, nor does what is below 0
        TwoLevel x = Check.told(deeds + "law luck (own-6)*1000;");
        x.go(1);
        CHECK.due("below 0", x.count(7), 4);
        x = Check.told(deeds + "law luck (own=0)*68+(own=2)*68+(own=5)*999-(own=7);");
        x.go(1);
        int[] outcomes = {1, 2, 1, 2};
        for (int i = 0; i < 4; i++) {
            CHECK.due("by law, done(" + i + ", 3)", x.done(i, 3), outcomes[i]);
        }
        x = Check.told(deeds + "law luck own/0;");
        x.go(1);
        // 0, 68, 88, 17 by odds 50
        CHECK.due("odds with an error", x.done(0, 3) * 1000 + x.done(1, 3) * 100 + x.done(2, 3) * 10 + x.done(3, 3), 1221);
    }

    private static void healing() {
        TwoLevel x = Check.told("kind a 1 3;has 0 a 7;has 1 a -4;");
        x.go(1);
        CHECK.due("nearer to 0", x.amount(0, 0), 4);
        CHECK.due("nearer to 0 from below", x.amount(0, 1), -1);
        x.go(1);
        CHECK.due("no farther than to 0", x.amount(0, 1), 0);
        x.go(1);
        CHECK.due("no farther than to 0 from above", x.amount(0, 0), 0);
        CHECK.due("level on one day", x.count(5), 1);
        x = Check.told("kind a 1 0;has 0 a 5;has 1 a 3;law heal other;");
        x.go(1);
        CHECK.due("of twin 0 first", x.amount(0, 0), 2);
        CHECK.due("then of 1", x.amount(0, 1), 1);
        x = Check.told("kind a 1 5;has 0 a 50;has 1 a -50;law heal own;");
        x.go(1);
        CHECK.due("9 at most", x.amount(0, 0), 41);
        CHECK.due("0 at least", x.amount(0, 1), -50);
        x = Check.told("kind a 1 5;has 0 a 50;has 1 a 20;law heal 2/(own>30);");
        x.go(1);
        CHECK.due("by law", x.amount(0, 0), 48);
        CHECK.due("heals with an error", x.amount(0, 1), 15);
        // a doing comes ahead of healing, of the same day by numbers
        x = Check.told("kind a 1 2;has 0 a 1;deed d a 4 0 100;do 0 d 0;");
        x.go(1);
        CHECK.due("doing ahead of healing", x.amount(0, 0), 3);
    }

    private static void wages() {
        TwoLevel x = Check.told("kind a 1 0;deed d a 1 5 100;do 0 d 0;do 0 d 1;purse 0 1;wage 0 4;wage 1 9;");
        x.go(1);
        CHECK.due("wages come behind doings", x.done(0, 3), 3);
        CHECK.due("purse", x.twin(0, 0), 5);
        x.go(1);
        CHECK.due("paid by the wage", x.done(1, 3), 1);
        CHECK.due("purse", x.twin(0, 0), 4);
        CHECK.due("purse of the other", x.twin(1, 0), 18);
        for (int i = 0; i < 6; i++) {
            x.go(200);
        }
        CHECK.due("9999 at most", x.twin(1, 0), 9999);
    }

    private static void bounds() {
        TwoLevel x = Check.told("kind a 1 0;has 0 a 99;has 1 a -99;deed u a 9 0 100;deed d a -9 0 100;do 0 u 0;do 1 d 0;");
        for (int i = 0; i < 100; i++) {
            x.does(0, 0, true);
            x.does(1, 1, true);
        }
        CHECK.due("up to 999", x.amount(0, 0), 999);
        CHECK.due("down to -999", x.amount(0, 1), -999);
        x.does(0, 0, true);
        CHECK.due("999 at most", x.amount(0, 0), 999);
        x.go(1);
        CHECK.due("999 at most by days", x.amount(0, 0), 999);
        CHECK.due("-999 at least by days", x.amount(0, 1), -999);
        CHECK.due("gap", x.kind(0, 2), 1998);
        CHECK.due("apart", x.apart(), 1998);
    }
}
