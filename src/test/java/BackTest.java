/** Promises 44 to 49: luck by chance, tried otherwise, undone, images, counts. */
final class BackTest {
    private static final Check CHECK = new Check("BackTest");

    public static void main(String[] args) {
        chance();
        tried();
        undo();
        undoMany();
        images();
        counts();
        CHECK.end();
    }

    private static void chance() {
        // numbers of seed 0: 0, 68, 88, 17, 98, 27, 45, 41, then of ten times one each
        TwoLevel x = Check.told("kind a 1 0;deed d a 3 0 50;do 0 d 0;seed 77;");
        int off = 0;
        long number = 0;
        for (int i = 0; i < 10; i++) {
            number = (number * 1103515245L + 12345L) & 0x7fffffffL;
            off += number / 65536 % 100 < 50 ? 1 : 0;
        }
        CHECK.due("apart 0 at most: in vain", x.chance(0, 1, 0), 10 - off);
        CHECK.due("apart 2 at most", x.chance(0, 1, 2), 10 - off);
        CHECK.due("apart 3 at most", x.chance(0, 1, 3), 10);
        CHECK.due("another seed", x.chance(2147483647, 1, 0) >= 0, true);
        int[][] wrong = {{-1, 1, 0}, {0, 0, 0}, {0, 100, 0}, {0, 1, -1}, {0, 1, 10000}};
        for (int[] w : wrong) {
            CHECK.due("chance(" + w[0] + ", " + w[1] + ", " + w[2] + ")", x.chance(w[0], w[1], w[2]), -1);
        }
        CHECK.due("99 days", x.chance(0, 99, 9999), 10);
        CHECK.due("all stays", x.count(4) + x.done(0, 3), 0);
        x.go(1);
        CHECK.due("it is done already", x.chance(0, 1, 0) % 10, 0);
        // two a time: 0 68 | 88 17 | 98 27 | 45 41: of the first four both come off in the last alone
        x = Check.told("kind a 1 0;deed d a 3 0 50;do 0 d 0;do 0 d 0;law apart 3*(gap<6);");
        CHECK.due("one behind another", pairs(), x.chance(0, 1, 0));
    }

    private static int pairs() {
        long number = 0;
        int both = 0;
        for (int i = 0; i < 10; i++) {
            int off = 0;
            for (int j = 0; j < 2; j++) {
                number = (number * 1103515245L + 12345L) & 0x7fffffffL;
                off += number / 65536 % 100 < 50 ? 1 : 0;
            }
            both += off == 2 ? 1 : 0;
        }
        return both;
    }

    private static void tried() {
        TwoLevel x = Check.told("kind a 1 1;has 0 a 9;has 1 a 2;deed d a 4 5 10;deed e a -3 5 90;"
                + "do 1 d 0;do 0 e 0;do 0 e 1;purse 0 5;purse 1 5;wage 0 5;");
        // as it goes: day 0: 9 - 3 - 1 = 5, 1; day 1: 5 - 3 - 1 = 1, 0
        CHECK.due("ahead(2, 0, 0)", x.ahead(2, 0, 0), 1);
        CHECK.due("nothing heals: 3, 2", x.tried(0, 0, 2), 1);
        CHECK.due("nothing heals: 6, 2", x.tried(0, 0, 1), 4);
        CHECK.due("all comes off: 5, 5", x.tried(1, 0, 1), 0);
        CHECK.due("all comes off: 1, 4", x.tried(1, 0, 2), 3);
        CHECK.due("twin 0 does nothing: 7, 0", x.tried(2, 0, 2), 7);
        CHECK.due("twin 1 does nothing: 1, 0", x.tried(2, 1, 2), 1);
        CHECK.due("no cost: 1, 0", x.tried(3, 0, 2), 1);
        CHECK.due("no wage: 4, 0", x.tried(4, 0, 2), 4);
        CHECK.due("0 days", x.tried(4, 0, 0), 7);
        CHECK.due("200 days", x.tried(0, 0, 200), 1);
        int[][] wrong = {{5, 0, 1}, {-1, 0, 1}, {0, 1, 1}, {1, 1, 1}, {3, 1, 1}, {4, -1, 1}, {2, 2, 1}, {2, -1, 1},
            {0, 0, 201}, {0, 0, -1}};
        for (int[] w : wrong) {
            CHECK.due("tried(" + w[0] + ", " + w[1] + ", " + w[2] + ")", x.tried(w[0], w[1], w[2]), -1);
        }
        x = Check.told("kind a 1 0;deed d a 4 5 90;do 0 d 0;");
        CHECK.due("all comes off, but what is refused", x.tried(1, 0, 1), 0);
        CHECK.due("no cost", x.tried(3, 0, 1), 4);
        x = Check.told("kind a 1 0;deed d a 4 0 0;do 0 d 0;law luck 0;");
        CHECK.due("all comes off against a law", x.tried(1, 0, 1), 4);
        x = Check.told("kind a 1 0;has 0 a 9;law heal 9;");
        CHECK.due("nothing heals against a law", x.tried(0, 0, 1), 9);
        CHECK.due("all stays", x.count(4), 0);
    }

    private static void undo() {
        TwoLevel x = Check.told("kind a 1 0;kind b 1 0;has 0 a 5;has 1 b 3;deed d a 2 4 0;purse 0 9;purse 1 990;");
        CHECK.due("undo() of none", x.undo(), -1);
        x.does(0, 0, true);
        x.does(0, 0, false);
        x.exchange(1);
        x.give(1, 99);
        CHECK.due("count(11)", x.count(11), 4);
        CHECK.due("what is refused can't be undone", x.does(0, 0, true), -2);
        CHECK.due("count(11)", x.count(11), 4);
        CHECK.due("undo() of the gift", x.undo(), 3);
        CHECK.due("purse", x.twin(1, 0), 990);
        CHECK.due("undo() of the exchange", x.undo(), 2);
        CHECK.due("amount(1, 0)", x.amount(1, 0), 0);
        CHECK.due("amount(1, 1)", x.amount(1, 1), 3);
        CHECK.due("amount(0, 0)", x.amount(0, 0), 7);
        CHECK.due("undo() of what was in vain", x.undo(), 1);
        CHECK.due("purse", x.twin(0, 0), 5);
        CHECK.due("amount(0, 0)", x.amount(0, 0), 7);
        CHECK.due("go(0): no day goes by", x.go(0), 0);
        CHECK.due("undo() of what came off", x.undo(), 0);
        CHECK.due("purse", x.twin(0, 0), 9);
        CHECK.due("amount(0, 0)", x.amount(0, 0), 5);
        CHECK.due("undo() of none", x.undo(), -1);
        x.give(0, 1);
        CHECK.due("go(201) goes not", x.go(201), -1);
        CHECK.due("count(11)", x.count(11), 1);
        x.go(1);
        CHECK.due("a day went by", x.undo(), -1);
        CHECK.due("count(11)", x.count(11), 0);
    }

    private static void undoMany() {
        TwoLevel x = Check.told("kind a 1 0;deed up a 9 0 0;has 0 a 99;");
        for (int i = 0; i < 102; i++) {
            x.does(0, 0, true);
        }
        CHECK.due("999 at most", x.amount(0, 0), 999);
        CHECK.due("20 at most", x.count(11), 20);
        int[] amounts = {999, 999, 990, 981};
        for (int i = 0; i < 4; i++) {
            CHECK.due("undo " + i, x.undo(), 19 - i);
            CHECK.due("amount behind undo " + i, x.amount(0, 0), amounts[i]);
        }
        for (int i = 4; i < 20; i++) {
            CHECK.due("undo " + i, x.undo(), 19 - i);
        }
        CHECK.due("amount of 82 deeds", x.amount(0, 0), 99 + 82 * 9);
        CHECK.due("undo() of none", x.undo(), -1);
    }

    private static void images() {
        TwoLevel x = Check.told("kind a 1 0;deed d a 3 2 50;do 0 d 0;do 0 d 1;do 0 d 2;do 0 d 3;purse 0 20;wage 1 3;");
        CHECK.due("back() of none", x.back(), -1);
        x.go(1);
        x.note(0, 1, true);
        CHECK.due("keep()", x.keep(), 1);
        x.give(0, 5);
        x.note(0, 2, true);
        x.known(1);
        x.go(3);
        int amount = x.amount(0, 0);
        int off = x.count(6);
        CHECK.due("count(4)", x.count(4), 4);
        CHECK.due("back()", x.back(), 1);
        CHECK.due("day", x.count(4), 1);
        CHECK.due("purse", x.twin(0, 0), 18);
        CHECK.due("purse of the other", x.twin(1, 0), 3);
        CHECK.due("amount", x.amount(0, 0), 3);
        CHECK.due("off", x.count(6), 1);
        CHECK.due("in vain", x.count(7), 0);
        CHECK.due("done(1, 3)", x.done(1, 3), 0);
        CHECK.due("level", x.count(5), 0);
        CHECK.due("notes stay", x.count(9), 2);
        CHECK.due("known stays", x.count(10), 1);
        CHECK.due("nothing to undo", x.undo(), -1);
        x.go(3);
        CHECK.due("the same numbers", x.amount(0, 0), amount);
        CHECK.due("the same luck", x.count(6), off);
        CHECK.due("back() again", x.back(), 1);
        x.give(0, 1);
        CHECK.due("keep() with something to undo", x.keep(), 1);
        CHECK.due("count(11)", x.count(11), 1);
        x.undo();
        CHECK.due("purse", x.twin(0, 0), 18);
        CHECK.due("back() to the one in place", x.back(), 1);
        CHECK.due("purse", x.twin(0, 0), 19);
        CHECK.due("a faulty text", Check.tell(x, "x"), -1);
        CHECK.due("the image stays", x.back(), 1);
        Check.tell(x, "kind a 1 0;");
        CHECK.due("no image behind a text", x.back(), -1);
    }

    private static void counts() {
        TwoLevel x = Check.told("kind a 1 0;kind b 1 0;deed d a 1 5 100;deed e a 1 5 0;deed f a -1 0 100;"
                + "do 0 d 0;do 0 e 0;do 1 d 1;do 0 f 1;purse 0 10;law luck 50+own*0=50;");
        x.note(0, 1, true);
        x.strike(0);
        x.see(1, 0, 0, true);
        int[] before = {2, 3, 4, 7, 0, 0, 0, 0, 0, 3, 3, 0};
        for (int what = 0; what < 12; what++) {
            CHECK.due("count(" + what + ")", x.count(what), before[what]);
        }
        CHECK.due("count(12)", x.count(12), -1);
        CHECK.due("count(-1)", x.count(-1), -1);
        x = Check.told("kind a 1 0;deed d a 1 5 100;deed e a 1 5 0;deed f a -1 0 100;"
                + "do 0 d 0;do 0 e 0;do 1 d 1;do 0 f 1;purse 0 10;");
        x.go(3);
        x.give(0, 1);
        int[] behind = {1, 3, 4, 0, 3, 2, 2, 1, 1, 0, 0, 1};
        for (int what = 0; what < 12; what++) {
            CHECK.due("count(" + what + ") behind three days", x.count(what), behind[what]);
        }
    }
}
