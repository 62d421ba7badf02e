/** Promises 2 to 5: feed, text, fault, named; and every fault of the terms at its place. */
final class TextTest {
    private static final Check CHECK = new Check("TextTest");

    public static void main(String[] args) {
        feeding();
        texts();
        names();
        tokens();
        misplaced();
        tooMuch();
        toldAlready();
        untold();
        values();
        CHECK.end();
    }

    private static void feeding() {
        TwoLevel x = new TwoLevel();
        for (int i = 1; i <= 35; i++) {
            CHECK.due("feed " + i, x.feed(0x20202020, 0x20202020, 0x20202020, 0x20202020, 0x20202020), 20 * i);
        }
        CHECK.due("feed beyond 700", x.feed(0, 0, 0, 0, 0), -1);
        CHECK.due("text(701)", x.text(701), -2);
        CHECK.due("text(-1)", x.text(-1), -2);
        CHECK.due("text(700), blanks", x.text(700), 0);
        CHECK.due("text(1): the tape is empty", x.text(1), -2);
        CHECK.due("feed again", x.feed(0, 0, 0, 0, 0), 20);
        // "kind", " a 1", " 2; ", then letters that are not asked for
        x = new TwoLevel();
        x.feed(0x6b696e64, 0x20612031, 0x20323b20, 0x78787878, 0x78787878);
        CHECK.due("the first n bytes", x.text(11), 1);
        CHECK.due("highest byte first", x.kind(0, 1), 2);
    }

    private static void texts() {
        TwoLevel x = Check.told("kind a 1 2;has 0 a 5;deed d a 1 0 100;do 0 d 0;");
        x.go(2);
        x.give(0, 3);
        x.note(0, 1, true);
        x.known(0);
        x.keep();
        CHECK.due("a faulty one", Check.tell(x, "kind a 1 2;kind b 1;"), -1);
        CHECK.due("fault(0)", x.fault(0), 1);
        CHECK.due("fault(1)", x.fault(1), 19);
        CHECK.due("fault(2)", x.fault(2), -1);
        CHECK.due("fault(-1)", x.fault(-1), -1);
        CHECK.due("the tape is empty behind it", x.text(1), -2);
        CHECK.due("-2 leaves the fault", x.fault(1), 19);
        CHECK.due("all stays: kinds", x.count(0), 1);
        CHECK.due("all stays: day", x.count(4), 2);
        CHECK.due("all stays: off", x.count(6), 1);
        CHECK.due("all stays: notes", x.count(9), 1);
        CHECK.due("all stays: known", x.count(10), 0);
        CHECK.due("all stays: undo", x.count(11), 1);
        CHECK.due("all stays: image", x.back(), 2);
        x.give(0, 3);
        CHECK.due("a right one", Check.tell(x, "kind z 3 4;wage 0 3;"), 2);
        CHECK.due("fault(0) behind a right one", x.fault(0), 0);
        CHECK.due("fault(1) behind a right one", x.fault(1), -1);
        int[] counts = {1, 0, 0, 0, 0, 0, 0, 0, 0, 0, 0, 0};
        for (int what = 0; what < 12; what++) {
            CHECK.due("count(" + what + ") behind a right one", x.count(what), counts[what]);
        }
        CHECK.due("no image", x.back(), -1);
        CHECK.due("purse", x.twin(0, 0), 0);
        CHECK.due("note", x.note(0, 1, true), 0);
        CHECK.due("all known", x.count(10), 1);
        CHECK.due("text(0)", x.text(0), 0);
        CHECK.due("no kinds", x.count(0), 0);
    }

    private static void names() {
        TwoLevel x = Check.told("kind abcdef 1 1;kind a 1 1;kind zz 1 1;deed zz a 1 1 1;deed abcdef a 1 1 1;");
        CHECK.due("named(0, abcdef)", x.named(0, Check.letters("abcdef")), 0);
        CHECK.due("named(0, a)", x.named(0, 1 << 25), 1);
        CHECK.due("named(0, zz)", x.named(0, Check.letters("zz")), 2);
        CHECK.due("named(1, zz)", x.named(1, Check.letters("zz")), 0);
        CHECK.due("named(1, abcdef)", x.named(1, Check.letters("abcdef")), 1);
        CHECK.due("named(1, a)", x.named(1, 1 << 25), -1);
        CHECK.due("named(2, a)", x.named(2, 1 << 25), -1);
        CHECK.due("named(-1, a)", x.named(-1, 1 << 25), -1);
        CHECK.due("named(0, 1): the letter is not highest", x.named(0, 1), -1);
        CHECK.due("named(0, 0)", x.named(0, 0), -1);
        CHECK.due("named(0, a and the sign)", x.named(0, 1 << 25 | 1 << 31), -1);
    }

    private static void tokens() {
        CHECK.fine("", 0);
        CHECK.fine(" \n ", 0);
        CHECK.fine("kind\na 1\n2 ;\n", 1);
        CHECK.fine("kinda 1 2;".replace("kinda", "kind a"), 1);
        CHECK.fine("kind a1 2;", 1);
        CHECK.fine("kind a 1 2;has 0a-5;", 2);
        CHECK.fine("kind a 1 2;has 0 a - 5;", 2);
        CHECK.fine("kind a 001 0000000000000000000002;", 1);
        CHECK.fine("kind abcdef 1 2;", 1);
        CHECK.faulty("kind abcdefg 1 2;", 1, 5);
        CHECK.faulty("kindly a 1 2;", 1, 0);
        CHECK.faulty("Kind a 1 2;", 1, 0);
        CHECK.faulty("kind a\t1 2;", 1, 6);
        CHECK.faulty("kind a 1 2;\r", 1, 11);
        CHECK.faulty("kind \u00e9 1 2;", 1, 5);
        CHECK.faulty("\0", 1, 0);
        CHECK.faulty("law luck 1 < = 2;", 1, 13);
        CHECK.faulty("law luck 1 <<2;", 1, 12);
        CHECK.faulty("law luck 1 =< 2;", 1, 12);
        CHECK.faulty("law luck 1 == 2;", 1, 12);
        CHECK.faulty("law luck 1 >> 2;", 1, 12);
        CHECK.faulty("law luck 1 >< 2;", 1, 12);
        CHECK.faulty("law luck 1 <=> 2;", 1, 13);
        CHECK.faulty("law luck 1 ! 2;", 1, 11);
        CHECK.faulty("law luck 1 <=", 1, 13);
        CHECK.faulty(";".repeat(700), 1, 0);
        cutShort("dox", 2, 1, 2);
        cutShort("wage 0 99;", 8, 1, 8);
        cutShort("law luck 1 <=2;", 12, 1, 12);
    }

    /** More than the first n bytes is on the tape, and doesn't count. */
    private static void cutShort(String text, int n, int fault, int place) {
        TwoLevel x = new TwoLevel();
        Check.feed(x, text.getBytes(java.nio.charset.StandardCharsets.ISO_8859_1));
        CHECK.due("text(" + n + ") of " + text, x.text(n), -1);
        CHECK.due("fault(0) of " + n + " of " + text, x.fault(0), fault);
        CHECK.due("fault(1) of " + n + " of " + text, x.fault(1), place);
    }

    private static void misplaced() {
        CHECK.faulty(";", 1, 0);
        CHECK.faulty("kind a 1 2;;", 1, 11);
        CHECK.faulty("kind a 1 2", 1, 10);
        CHECK.faulty("kind a 1 2  ", 1, 12);
        CHECK.faulty("kind", 1, 4);
        CHECK.faulty("kind a 1", 1, 8);
        CHECK.faulty("kind do 1 1;", 1, 5);
        CHECK.faulty("kind own 1 1;", 1, 5);
        CHECK.faulty("kind heal 1 1;", 1, 5);
        CHECK.faulty("kind a -1 1;", 1, 7);
        CHECK.faulty("kind a 1 1 1;", 1, 11);
        CHECK.faulty("kind 1 1 1;", 1, 5);
        CHECK.faulty("a b c;", 1, 0);
        CHECK.faulty("apart 1;", 1, 0);
        CHECK.faulty("kind a 1 1;has 0 a;", 1, 18);
        CHECK.faulty("kind a 1 1;has 0 a --1;", 1, 20);
        CHECK.faulty("kind a 1 1;has 0 a -;", 1, 20);
        CHECK.faulty("kind a 1 1;has -0 a 1;", 1, 15);
        CHECK.faulty("kind a 1 1;deed kind a 1 1 1;", 1, 16);
        CHECK.faulty("kind a 1 1;deed b and 1 1 1;", 1, 18);
        CHECK.faulty("kind a 1 1;deed b a 1 -1 1;", 1, 22);
        CHECK.faulty("purse x 1;", 1, 6);
        CHECK.faulty("seed;", 1, 4);
        CHECK.faulty("seed a;", 1, 5);
        CHECK.faulty("law", 1, 3);
        CHECK.faulty("law day 1;", 1, 4);
        CHECK.faulty("law or 1;", 1, 4);
        CHECK.faulty("law wage 1;", 1, 4);
        CHECK.faulty("law law 1;", 1, 4);
        CHECK.faulty("law gap gap;", 1, 4);
        CHECK.faulty("kind a 1 1;law luck a;", 1, 20);
        CHECK.faulty("law luck 1 + not 1;", 1, 13);
        CHECK.faulty("law luck 1 < not 1;", 1, 13);
        CHECK.faulty("law luck 1 not 1;", 1, 11);
        CHECK.faulty("law luck 1 < 2 < 3;", 1, 15);
        CHECK.faulty("law luck 1 < 2 + 3 = 3;", 1, 19);
        CHECK.faulty("law luck (1 = 2 <> 3);", 1, 16);
        CHECK.faulty("law luck -1;", 1, 9);
        CHECK.faulty("law luck ();", 1, 10);
        CHECK.faulty("law luck (1;", 1, 11);
        CHECK.faulty("law luck (1", 1, 11);
        CHECK.faulty("law luck 1);", 1, 10);
        CHECK.faulty("law luck 1 +;", 1, 12);
        CHECK.faulty("law luck 1 own;", 1, 11);
        CHECK.faulty("law luck or 1;", 1, 9);
        CHECK.faulty("law luck not;", 1, 12);
        CHECK.faulty("law luck 1 kind;", 1, 11);
    }

    private static void tooMuch() {
        CHECK.fine("kind a 9 9;", 1);
        CHECK.faulty("kind a 10 1;", 2, 7);
        CHECK.faulty("kind a 1 10;", 2, 9);
        CHECK.faulty("kind a 1 99999999999999999999;", 2, 9);
        CHECK.fine("kind a 1 1;has 1 a 99;has 1 a -99;", 3);
        CHECK.faulty("kind a 1 1;has 1 a 100;", 2, 19);
        CHECK.faulty("kind a 1 1;has 1 a - 100;", 2, 21);
        CHECK.faulty("kind a 1 1;has 2 a 1;", 2, 15);
        CHECK.fine("kind a 1 1;deed a a 9 99 100;deed b a -9 0 0;", 3);
        CHECK.faulty("kind a 1 1;deed a a 10 1 1;", 2, 20);
        CHECK.faulty("kind a 1 1;deed a a -10 1 1;", 2, 21);
        CHECK.faulty("kind a 1 1;deed a a 1 100 1;", 2, 22);
        CHECK.faulty("kind a 1 1;deed a a 1 1 101;", 2, 24);
        String deed = "kind a 1 1;deed a a 1 1 1;";
        CHECK.fine(deed + "do 1 a 99;", 3);
        CHECK.faulty(deed + "do 1 a 100;", 2, 33);
        CHECK.faulty(deed + "do 2 a 1;", 2, 29);
        CHECK.fine("purse 0 999;wage 1 9;seed 99999;", 3);
        CHECK.faulty("purse 0 1000;", 2, 8);
        CHECK.faulty("purse 2 1;", 2, 6);
        CHECK.faulty("wage 0 10;", 2, 7);
        CHECK.faulty("wage 2 1;", 2, 5);
        CHECK.faulty("seed 100000;", 2, 5);
        CHECK.fine("law luck 9999;", 1);
        CHECK.faulty("law luck 10000;", 2, 9);
        CHECK.fine("kind a 1 1;kind b 1 1;kind c 1 1;kind d 1 1;kind e 1 1;kind f 1 1;", 6);
        CHECK.faulty("kind a 1 1;kind b 1 1;kind c 1 1;kind d 1 1;kind e 1 1;kind f 1 1; kind", 2, 67);
        String many = "";
        for (int i = 0; i < 8; i++) {
            many += "deed " + (char) ('a' + i) + " a 1 1 1;";
        }
        CHECK.fine("kind a 1 1;" + many, 9);
        CHECK.faulty("kind a 1 1;" + many + "deed a", 2, 11 + 8 * 15);
        CHECK.fine("kind a 1 1;" + "has 0 a 1;".repeat(12), 13);
        CHECK.faulty("kind a 1 1;" + "has 0 a 1;".repeat(13), 2, 131);
        CHECK.fine(deed + "do 0 a 1;".repeat(12), 14);
        CHECK.faulty(deed + "do 0 a 1;".repeat(13), 2, 26 + 108);
        CHECK.fine("law luck " + "(".repeat(8) + "1" + ")".repeat(8) + ";", 1);
        CHECK.faulty("law luck " + "(".repeat(9) + "1" + ")".repeat(9) + ";", 2, 17);
        CHECK.fine("law luck " + "(".repeat(8) + "1" + ")".repeat(8) + "+" + "(".repeat(8) + "1" + ")".repeat(8) + ";", 1);
        knots();
    }

    private static void knots() {
        // of a + a + .. each but the first value brings two knots: 1 + 2 * 31 = 63
        String most = "1" + "+1".repeat(31);
        TwoLevel x = Check.told("law luck " + most + ";law heal own;");
        CHECK.due("64 knots", x.count(3), 64);
        CHECK.faulty("law luck " + most + ";law heal own or 1;", 2, 9 + 63 + 1 + 9 + 4);
        CHECK.faulty("law luck " + most + "+1;", 2, 9 + 64);
        CHECK.faulty("law luck " + most + ";law heal 1;law apart 2;", 2, 9 + 63 + 1 + 11 + 10);
        CHECK.faulty("law luck " + most + "*(((not 1)));", 2, 9 + 64 + 3);
        CHECK.faulty("law luck " + most + "*)", 1, 9 + 64);
        CHECK.due("parentheses are none", Check.told("law luck ((1)<=(own));").count(3), 3);
        CHECK.due("all signs", Check.told("law luck not 1 and 2 or own<>3-4*5/6;").count(3), 14);
    }

    private static void toldAlready() {
        CHECK.faulty("kind a 1 1;kind a", 3, 16);
        CHECK.faulty("kind a 1 1;deed b a 1 1 1;deed b a 1 1 1;", 3, 31);
        CHECK.fine("kind a 1 1;deed a a 1 1 1;", 2);
        CHECK.faulty("purse 0 1;purse 1 1;purse 1 1;", 3, 26);
        CHECK.fine("purse 0 1;wage 0 1;purse 1 1;wage 1 1;", 4);
        CHECK.faulty("wage 0 1;purse 0 1;wage 0 1;", 3, 24);
        CHECK.faulty("seed 0;purse 0 1;seed 1;", 3, 17);
        CHECK.faulty("law apart 1;law heal 1;law luck 1;law heal 2;", 3, 38);
        CHECK.fine("kind a 1 1;has 0 a 3;has 0 a 4;", 3);
        CHECK.due("the latest counts", Check.told("kind a 1 1;has 0 a 3;has 0 a -4;has 1 a 9;").amount(0, 0), -4);
    }

    private static void untold() {
        CHECK.faulty("has 0 a 1;kind a 1 1;", 4, 6);
        CHECK.faulty("kind a 1 1;deed b c 1 1 1;", 4, 18);
        CHECK.faulty("kind a 1 1;do 0 a 1;", 4, 16);
        CHECK.faulty("kind a 1 1;deed b a 1 1 1;has 0 b 1;", 4, 32);
        CHECK.faulty("kind a 1 1;has 0 ab 100;", 4, 17);
    }

    /** What E's come to, by the law of apart on one kind: own 7, other -3, gap 10, shows 4, heals 2. */
    private static void value(String e, long due) {
        TwoLevel x = Check.told("kind k 4 2;has 0 k 7;has 1 k -3;law apart " + e + ";");
        CHECK.due(e, x.law(0, 0, 0), due);
    }

    private static void values() {
        value("own", 7);
        value("other", -3);
        value("gap", 10);
        value("shows", 4);
        value("heals", 2);
        value("level", 0);
        value("day", 0);
        value("1+2*3", 7);
        value("(1+2)*3", 9);
        value("10-2-3", 5);
        value("100/5/2", 10);
        value("100/5*2", 40);
        value("other/2", -1);
        value("(0-7)/2", -3);
        value("7/(0-2)", -3);
        value("1<2", 1);
        value("2<=2", 1);
        value("2<2", 0);
        value("2>=3", 0);
        value("3>2", 1);
        value("2=3", 0);
        value("2<>3", 1);
        value("1+1=2", 1);
        value("1+(1=2)", 1);
        value("1 or 0 and 0", 1);
        value("(1 or 0) and 0", 0);
        value("5 and 7", 1);
        value("0 or 9", 1);
        value("not 0 and 0", 0);
        value("not (0 and 0)", 1);
        value("not 2=3", 1);
        value("not not 5", 1);
        value("not 1 or 1", 1);
        value("1 and not 0", 1);
        value("1/0", Long.MIN_VALUE);
        value("0 and 1/0", Long.MIN_VALUE);
        value("1 or 1/0", Long.MIN_VALUE);
        value("1/0=1/0", Long.MIN_VALUE);
        value("not (1/0)", Long.MIN_VALUE);
        value("1000*1000*1000*1000", 1000000000000L);
        value("1000*1000*1000*1000+1", Long.MIN_VALUE);
        value("1000*1000*1000*1000+1-1", Long.MIN_VALUE);
        value("0-1000*1000*1000*1000", -1000000000000L);
        value("0-1000*1000*1000*1000-1", Long.MIN_VALUE);
        value("9999*9999*9999*2", Long.MIN_VALUE);
        value("(1000*1000*1000*1000)*(1000*1000*1000*1000)", Long.MIN_VALUE);
        value("(1000*1000*1000*1000)*(0-1000*1000*1000*1000)", Long.MIN_VALUE);
        value("(1000*1000*1000*1000)*0", 0);
        value("0*(1000*1000*1000*1000)", 0);
        value("1000*1000*1000*1000/(0-1)", -1000000000000L);
        // 2 to the 32 squared would be 0 in a long
        value("(256*256*256*256)*(256*256*256*256)", Long.MIN_VALUE);
        value("not ".repeat(63) + "7", 0);
        value("(".repeat(8) + "not ".repeat(62) + "7" + ")".repeat(8), 1);
        value("1-(2-(3-(4-(5-(6-(7-(8-(9))))))))", 5);
        oftenTold();
    }

    /** Many texts one behind another leave room for the knots of the last one. */
    private static void oftenTold() {
        TwoLevel x = new TwoLevel();
        for (int i = 0; i < 9; i++) {
            CHECK.due("text " + i, Check.tell(x, "kind k 1 1;law heal 1" + "+1".repeat(20) + ";law apart " + i + "*2;"), 3);
            CHECK.due("knots of text " + i, x.count(3), 44);
            CHECK.due("heal of text " + i, x.law(1, 0, 0), 21);
            CHECK.due("apart of text " + i, x.law(0, 0, 0), 2 * i);
        }
    }
}
