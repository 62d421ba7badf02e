import java.io.IOException;

/** Part 1 of the terms, sentence by sentence: the text and its faults. */
final class EdgeTextTest {
    private static final String[] LANGUAGE = {"kind", "has", "deed", "do", "purse", "wage", "seed", "law", "apart", "heal",
        "luck", "or", "and", "not", "own", "other", "gap", "shows", "heals", "level", "day"};
    private static final String KIND = "kind a 1 1;";
    private static final String DEED = "kind a 1 1;deed d a 1 1 1;";

    private final Edges edges = new Edges("EdgeTextTest");

    private EdgeTextTest() throws IOException {
    }

    public static void main(String[] args) throws IOException {
        EdgeTextTest test = new EdgeTextTest();
        test.edges.terms(1);
        test.texts();
        test.words();
        test.blanks();
        test.signs();
        test.parts();
        test.behind();
        test.kinds();
        test.deeds();
        test.purses();
        test.firstFault();
        test.misplaced();
        test.tooMuch();
        test.knots();
        test.toldAlready();
        test.untold();
        test.edges.end();
    }

    private void texts() {
        edges.says("A TEXT: { LINE ';' }.");
        edges.fine("", 0);
        edges.fine(" \n ", 0);
        edges.fine("seed 1;", 1);
        edges.fine("seed 1;wage 0 1;purse 0 1;", 3);
        edges.faulty(1, "seed 1^");
        edges.faulty(1, "seed 1;wage 0 1^");
        edges.faulty(1, "^;");
        edges.faulty(1, "seed 1;^;");
        edges.faulty(1, "seed 1^,");
        edges.fine(" ".repeat(693) + "seed 1;", 1);
        edges.faulty(1, " ".repeat(694) + "seed 1^");

        edges.says("LINE: kind W N N | has N W [ - ] N | deed W W [ - ] N N N | do N W N | purse N N | wage N N | seed N |"
                + " law LAW E.");
        String[] lines = {"kind b 1 1 ;", "has 0 a 1 ;", "has 0 a - 1 ;", "deed e a 1 1 1 ;", "deed e a - 1 1 1 ;",
            "do 0 d 1 ;", "purse 0 1 ;", "wage 0 1 ;", "seed 1 ;", "law luck 1 ;"};
        for (String line : lines) {
            edges.fine(DEED + line, 3);
            String[] tokens = line.split(" ");
            String ahead = DEED;
            for (int i = 0; i < tokens.length; i++) {
                if (i > 0) {
                    edges.faulty(1, ahead + "^");
                }
                String behind = "";
                for (int j = i + 1; j < tokens.length; j++) {
                    behind += " " + tokens[j];
                }
                edges.faulty(1, ahead + "^)" + behind);
                edges.faulty(1, ahead + "^)" + tokens[i] + behind);
                ahead += tokens[i] + " ";
            }
            edges.faulty(1, DEED + line.replace(";", "^7;"));
            edges.faulty(1, DEED + line.replace(";", "^x;"));
        }
        edges.faulty(1, DEED + "has 0 a - ^- 1;");
        edges.faulty(1, DEED + "deed e a 1 ^- 1 1;");
        edges.faulty(1, DEED + "deed e a 1 1 ^- 1;");
        edges.faulty(1, DEED + "do ^- 0 d 1;");
        edges.faulty(1, DEED + "do 0 d ^- 1;");
        edges.faulty(1, "kind a ^- 1 1;");
        edges.faulty(1, "kind a 1 ^- 1;");
        edges.faulty(1, "purse 0 ^- 1;");
        edges.faulty(1, "wage 0 ^- 1;");
        edges.faulty(1, "seed ^- 1;");

        edges.says("LAW: apart | heal | luck.");
        edges.fine("law apart 1;law heal 1;law luck 1;", 3);
        for (String word : LANGUAGE) {
            if (!word.equals("apart") && !word.equals("heal") && !word.equals("luck")) {
                edges.faulty(1, "law ^" + word + " 1;");
            }
        }
        edges.faulty(1, "law ^lucky 1;");
        edges.faulty(1, "law ^1;");
    }

    private void words() {
        edges.says("Words: small letters in a row;");
        edges.fine("kind az 1 1;kind za 1 1;", 2);
        edges.faulty(1, "kind ^` 1 1;");
        edges.faulty(1, "kind ^{ 1 1;");
        edges.faulty(1, "kind ^A 1 1;");
        edges.faulty(1, "kind ^Z 1 1;");
        edges.faulty(1, "kind a^A 1 1;");
        edges.faulty(1, "^ki nd a 1 1;");
        edges.faulty(1, "^kinda 1 1;");
        edges.fine("seed1;", 1);

        edges.says("W: one of 1 .. 6 letters, none of those of the language;");
        edges.fine("kind a 1 1;deed z a 1 1 1;", 2);
        edges.fine("kind abcdef 1 1;deed uvwxyz abcdef 1 1 1;do 0 uvwxyz 1;has 0 abcdef 1;", 4);
        edges.faulty(1, "kind ^abcdefg 1 1;");
        edges.faulty(1, KIND + "deed ^abcdefg a 1 1 1;");
        edges.faulty(1, KIND + "deed d ^abcdefg 1 1 1;");
        edges.faulty(1, KIND + "has 0 ^abcdefg 1;");
        edges.faulty(1, DEED + "do 0 ^abcdefg 1;");
        for (String word : LANGUAGE) {
            edges.faulty(1, "kind ^" + word + " 1 1;");
            edges.faulty(1, KIND + "deed ^" + word + " a 1 1 1;");
            edges.faulty(1, KIND + "deed d ^" + word + " 1 1 1;");
            edges.faulty(1, KIND + "has 0 ^" + word + " 1;");
            edges.faulty(1, DEED + "do 0 ^" + word + " 1;");
            edges.fine("kind " + word + "x 1 1;deed x" + word + " " + word + "x 1 1 1;", 2);
            String shorter = word.substring(0, word.length() - 1);
            if (!shorter.equals("heal")) {
                edges.fine("kind " + shorter + " 1 1;", 1);
            }
        }
    }

    private void blanks() {
        edges.says("N: digits.");
        edges.due("0123456789 by purses and seeds", edges.fine("seed 67890;purse 0 123;purse 1 459;", 3).twin(0, 0), 123);
        edges.due("leading 0", edges.fine("purse 00 " + "0".repeat(300) + "7;", 1).twin(0, 0), 7);
        edges.faulty(1, "seed 1^/;");
        edges.faulty(1, "seed 1^:;");
        edges.faulty(1, "seed 1 ^1;");
        edges.faulty(1, "seed ^x;");
        edges.faulty(1, "seed ^;");
        edges.fine("kind a1 1;has 0a-5;", 2);

        edges.says("Blanks 10, 32.");
        for (int sign = 0; sign < 256; sign++) {
            boolean isBlank = sign == 10 || sign == 32;
            boolean isDigit = sign >= '0' && sign <= '9';
            boolean isLetter = sign >= 'a' && sign <= 'z';
            String text = "seed" + (char) sign + "1;";
            if (isBlank || isDigit) {
                edges.fine(text, 1);
            } else {
                edges.faulty(1, isLetter ? "^" + text : "seed^" + text.substring(4));
            }
        }
        edges.fine("\n \nkind\n\na \n1  1\n;\n \n", 1);
        edges.fine("kind a 1 1;has 0 a -\n 5;", 2);
    }

    /** By the law of apart on one kind: own 7, other -3, gap 10, shows 4, heals 2. */
    private void value(String e, long due) {
        TwoLevel x = edges.fine("kind k 4 2;has 0 k 7;has 1 k -3;law apart " + e + ";", 4);
        edges.due("the value of " + e, x.law(0, 0, 0), due);
    }

    private void signs() {
        edges.says("E: A { or A }.");
        value("0 or 0 or 3", 1);
        value("1 or 0 and 0", 1);
        edges.faulty(1, "law luck ^or 1;");
        edges.faulty(1, "law luck 1 or ^;");
        edges.faulty(1, "law luck 1 or ^or 1;");
        edges.says("A: B { and B }.");
        value("1 and 2 and 0", 0);
        value("0 and 0 or 1", 1);
        value("0 and (0 or 1)", 0);
        edges.faulty(1, "law luck ^and 1;");
        edges.faulty(1, "law luck 1 and ^;");
        edges.says("B: not B | C.");
        value("not 2 = 3", 1);
        value("not not 5", 1);
        value("not 0 and 0", 0);
        value("not 1 or 1", 1);
        value("1 and not 1 or not 0", 1);
        edges.faulty(1, "law luck not ^;");
        edges.faulty(1, "law luck 1 ^not 1;");
        edges.faulty(1, "law luck 1 + ^not 1;");
        edges.faulty(1, "law luck 1 * ^not 1;");
        edges.faulty(1, "law luck 1 = ^not 1;");
        value("1 + (not 1)", 1);
        edges.says("C: S [ ( < | <= | = | <> | >= | > ) S ].");
        String[] comparisons = {"<", "<=", "=", "<>", ">=", ">"};
        for (String one : comparisons) {
            for (String other : comparisons) {
                edges.faulty(1, "law luck 1 " + one + " 2 ^" + other + " 3;");
                edges.faulty(1, "law luck not 1+1 " + one + " 2*1 ^" + other + " 3;");
                edges.faulty(1, "law luck (1 " + one + " (2) ^" + other + " 3);");
                edges.fine("law luck (1 " + one + " 2) " + other + " 3;", 1);
                edges.fine("law luck 1 " + one + " (2 " + other + " 3);", 1);
                edges.fine("law luck 1 " + one + " 2 and 2 " + other + " 3;", 1);
                edges.fine("law luck 1 " + one + " 2 or not 2 " + other + " 3;", 1);
            }
            edges.faulty(1, "law luck ^" + one + " 1;");
            edges.faulty(1, "law luck 1 " + one + " ^;");
        }
        value("2+3=5", 1);
        value("2+(3=5)", 2);
        edges.says("S: T { ( + | - ) T }.");
        value("10-2-3+1", 6);
        value("2+3*4-1", 13);
        edges.faulty(1, "law luck ^-1;");
        edges.faulty(1, "law luck ^+1;");
        edges.faulty(1, "law luck 1+^+1;");
        edges.faulty(1, "law luck 1-^;");
        edges.says("T: P { ( * | / ) P }.");
        value("100/5/2*3", 30);
        value("2*3*4/5", 4);
        edges.faulty(1, "law luck ^*1;");
        edges.faulty(1, "law luck 1*^-1;");
        edges.faulty(1, "law luck 1/^;");
    }

    private void parts() {
        edges.says("P: N | NAME | '(' E ')'; N of E 0 .. 9999.");
        value("(1 or 0)", 1);
        value("((own))", 7);
        value("0", 0);
        value("9999", 9999);
        edges.faulty(2, "law luck ^10000;");
        edges.faulty(2, "law luck 1+^99999999999999999999;");
        edges.faulty(1, "law luck (^);");
        edges.faulty(1, "law luck (1^;");
        edges.faulty(1, "law luck (1^");
        edges.faulty(1, "law luck 1^);");
        edges.faulty(1, "law luck (1)^);");
        edges.faulty(1, "law luck (1)^(1);");
        edges.faulty(1, "law luck 1 ^1;");
        edges.faulty(1, "law luck 1 ^own;");
        edges.faulty(1, "law luck own ^1;");
        edges.faulty(1, "law luck (1) ^1;");
        edges.faulty(1, "law luck 1 ^(1);");

        edges.says("NAME: own other gap shows heals level day.");
        value("own", 7);
        value("other", 0 - 3);
        value("gap", 10);
        value("shows", 4);
        value("heals", 2);
        value("level", 0);
        value("day", 0);
        for (int i = 0; i < 13; i++) {
            if (i != 10) {
                edges.faulty(1, "law luck 1+^" + LANGUAGE[i] + ";");
            }
        }
        edges.faulty(1, "law luck ^luck;");
        edges.faulty(1, "kind a 1 1;law luck ^a;");
        edges.faulty(1, "law luck ^show;");
        edges.faulty(1, "law luck ^days;");
    }

    private void behind() {
        edges.says("A = (or > behind <) right behind < or > belongs to it.");
        value("2<=2", 1);
        value("2>=2", 1);
        value("2<>2", 0);
        value("2<=3", 1);
        value("3>=2", 1);
        value("2<>3", 1);
        value("3<=2", 0);
        value("2>=3", 0);
        edges.due("<= is one knot", edges.fine("law luck 1<=2;", 1).count(3), 3);
        edges.faulty(1, "law luck 1 < ^= 2;");
        edges.faulty(1, "law luck 1 > ^= 2;");
        edges.faulty(1, "law luck 1 < ^> 2;");
        edges.faulty(1, "law luck 1 <\n^= 2;");
        edges.faulty(1, "law luck 1 >^< 2;");
        edges.faulty(1, "law luck 1 >^> 2;");
        edges.faulty(1, "law luck 1 <^< 2;");
        edges.faulty(1, "law luck 1 =^< 2;");
        edges.faulty(1, "law luck 1 =^> 2;");
        edges.faulty(1, "law luck 1 =^= 2;");
        edges.faulty(1, "law luck 1 <=^= 2;");
        edges.faulty(1, "law luck 1 <=^> 2;");
        edges.faulty(1, "law luck 1 >=^= 2;");
        edges.faulty(1, "law luck 1 <>^= 2;");
        edges.faulty(1, "law luck 1 <>^> 2;");
        // the = behind the text's last byte isn't of the text
        TwoLevel x = new TwoLevel();
        Check.feed(x, "law luck 1 <=2;".getBytes(java.nio.charset.StandardCharsets.ISO_8859_1));
        edges.due("text(12)", x.text(12), -1);
        edges.due("fault(0)", x.fault(0), 1);
        edges.due("fault(1)", x.fault(1), 12);
    }

    private void kinds() {
        edges.says("TWINS are 0 and 1.");
        edges.fine(DEED + "has 0 a 1;has 1 a 1;do 0 d 1;do 1 d 1;purse 0 1;purse 1 1;wage 0 1;wage 1 1;", 10);
        edges.faulty(2, DEED + "has ^2 a 1;");
        edges.faulty(2, DEED + "do ^2 d 1;");
        edges.faulty(2, "purse ^2 1;");
        edges.faulty(2, "wage ^2 1;");

        edges.says("KINDS, at most 6: SHOWS 0 .. 9, HEALS 0 .. 9.");
        String six = "kind a 0 0;kind b 9 9;kind c 0 9;kind d 9 0;kind e 1 1;kind f 8 8;";
        TwoLevel x = edges.fine(six, 6);
        edges.due("count(0)", x.count(0), 6);
        edges.due("SHOWS 0", x.kind(0, 0), 0);
        edges.due("HEALS 0", x.kind(0, 1), 0);
        edges.due("SHOWS 9", x.kind(1, 0), 9);
        edges.due("HEALS 9", x.kind(1, 1), 9);
        edges.faulty(2, six + "^kind g 1 1;");
        edges.faulty(2, "kind a ^10 1;");
        edges.faulty(2, "kind a 1 ^10;");

        edges.says("has: a TWIN has of a KIND an AMOUNT -99 .. 99 at first (0 without; the latest one told counts), at most 12"
                + " such LINES.");
        x = edges.fine("kind a 1 1;kind b 1 1;has 0 a 99;has 1 a -99;has 0 b -0;", 5);
        edges.due("99", x.amount(0, 0), 99);
        edges.due("-99", x.amount(0, 1), -99);
        edges.due("-0", x.amount(1, 0), 0);
        edges.due("0 without", x.amount(1, 1), 0);
        edges.faulty(2, KIND + "has 0 a ^100;");
        edges.faulty(2, KIND + "has 0 a -^100;");
        x = edges.fine(KIND + "has 0 a 5;has 1 a 6;has 0 a -7;", 4);
        edges.due("the latest one", x.amount(0, 0), -7);
        edges.due("of its TWIN", x.amount(0, 1), 6);
        x = edges.fine(KIND + "has 0 a 1;".repeat(11) + "has 0 a 2;", 13);
        edges.due("the twelfth", x.amount(0, 0), 2);
        edges.faulty(2, KIND + "has 0 a 1;".repeat(12) + "^has 0 a 1;");
    }

    private void deeds() {
        edges.says("DEEDS, at most 8: of a KIND, BY -9 .. 9, COST 0 .. 99, ODDS 0 .. 100 (of a hundred).");
        String deeds = KIND + "deed a a 9 99 100;deed b a -9 0 0;deed c a 0 1 1;deed d a -0 98 99;"
                + "deed e a 1 1 1;deed f a 1 1 1;deed g a 1 1 1;deed h a 1 1 1;";
        TwoLevel x = edges.fine(deeds, 9);
        edges.due("count(1)", x.count(1), 8);
        int[] most = {0, 9, 99, 100};
        int[] least = {0, -9, 0, 0};
        for (int what = 0; what < 4; what++) {
            edges.due("deed(0, " + what + ")", x.deed(0, what), most[what]);
            edges.due("deed(1, " + what + ")", x.deed(1, what), least[what]);
        }
        edges.faulty(2, deeds + "^deed i a 1 1 1;");
        edges.faulty(2, KIND + "deed a a ^10 1 1;");
        edges.faulty(2, KIND + "deed a a -^10 1 1;");
        edges.faulty(2, KIND + "deed a a 1 ^100 1;");
        edges.faulty(2, KIND + "deed a a 1 1 ^101;");

        edges.says("do, at most 12: a TWIN does a DEED on a DAY 0 .. 99.");
        x = edges.fine(DEED + "do 0 d 0;do 1 d 99;" + "do 0 d 1;".repeat(10), 14);
        edges.due("count(2)", x.count(2), 12);
        edges.due("DAY 0", x.done(0, 2), 0);
        edges.due("DAY 99", x.done(1, 2), 99);
        edges.faulty(2, DEED + "do 0 d ^100;");
        edges.faulty(2, DEED + "do 0 d 1;".repeat(12) + "^do 0 d 1;");
    }

    private void purses() {
        edges.says("purse: a TWIN's PURSE 0 .. 999 (each once; 0).");
        TwoLevel x = edges.fine("purse 1 999;", 1);
        edges.due("999", x.twin(1, 0), 999);
        edges.due("0 without", x.twin(0, 0), 0);
        edges.due("0", edges.fine("purse 0 0;purse 1 1;", 2).twin(0, 0), 0);
        edges.faulty(2, "purse 0 ^1000;");
        edges.faulty(3, "purse 0 1;purse ^0 1;");
        edges.faulty(3, "purse 1 1;purse 0 1;purse ^1 1;");
        edges.says("wage: a TWIN's 0 .. 9 a DAY (each once; 0).");
        x = edges.fine("wage 1 9;", 1);
        edges.due("9", x.twin(1, 1), 9);
        edges.due("0 without", x.twin(0, 1), 0);
        edges.due("0", edges.fine("wage 0 0;wage 1 1;", 2).twin(0, 1), 0);
        edges.faulty(2, "wage 0 ^10;");
        edges.faulty(3, "wage 0 1;wage ^0 1;");
        edges.faulty(3, "wage 1 1;wage 0 1;wage ^1 1;");
        edges.says("seed: 0 .. 99999 (0).");
        edges.fine("seed 0;", 1);
        edges.fine("seed 99999;", 1);
        edges.faulty(2, "seed ^100000;");
        edges.faulty(3, "seed 0;^seed 1;");
        String half = "kind a 1 0;deed d a 1 0 50;" + "do 0 d 0;".repeat(12);
        for (int seed = 0; seed <= 99999; seed += 33333) {
            x = edges.fine(half + (seed == 0 ? "" : "seed " + seed + ";"), seed == 0 ? 14 : 15);
            x.go(1);
            for (int i = 0; i < 12; i++) {
                edges.due("done(" + i + ", 3) by seed " + seed, x.done(i, 3), Edges.number(seed, i) < 50 ? 1 : 2);
            }
        }

        edges.says("All numbered as they come; KINDS, DEEDS have names of their kind.");
        x = edges.fine("kind b 1 2;deed c b 3 4 5;kind a 6 7;deed b a 1 2 3;deed a b 7 8 9;do 1 b 8;do 0 c 9;", 7);
        edges.due("KIND a", x.named(0, Check.letters("a")), 1);
        edges.due("DEED b", x.named(1, Check.letters("b")), 1);
        edges.due("DEED a", x.named(1, Check.letters("a")), 2);
        edges.due("KIND of DEED a", x.deed(2, 0), 0);
        edges.due("the DEED done first", x.done(0, 1), 1);
        edges.due("the DEED done second", x.done(1, 1), 0);
        edges.says("Each TWIN is told as 0 or 1.");
        edges.due("TWIN 1", x.done(0, 0), 1);
        edges.due("TWIN 0", x.done(1, 0), 0);
        edges.faulty(1, KIND + "has ^a a 1;");
    }

    private void firstFault() {
        edges.says("FAULTS, the first along the text (of one place the least), with its place:");
        edges.faulty(2, "kind a ^10 1;kind a 1 1;x");
        edges.faulty(3, KIND + "kind ^a 10 1;has 0 b 1;?");
        edges.faulty(4, KIND + "has 0 ^b 100;kind a 1 1;");
        edges.faulty(1, "kind ^? 10 1;kind a 10 1;");
        // a token that can't stand there ahead of what it would be too much of
        edges.faulty(1, "kind ^99 1 1;");
        edges.faulty(1, "kind a 1 1 ^99;");
        edges.faulty(1, "law luck 1 ^99999;");
        edges.faulty(1, "law luck " + "(".repeat(8) + "1 ^(");
        edges.faulty(1, "law luck " + "(".repeat(8) + "1^( (");
        String most = "law luck 1" + "+1".repeat(31) + "-";
        edges.faulty(1, most + "^*");
        edges.faulty(1, most + "^)");
        edges.faulty(1, most + "^not 1");
        edges.faulty(1, most + "(^)");
        edges.faulty(1, most + "^;");
        edges.faulty(1, "law luck not 1" + "+1".repeat(30) + "=1 ^= 1");
        // told already at its place, though too much comes behind it
        edges.faulty(3, "purse 0 1;purse ^0 1000;");
        edges.faulty(3, "seed 1;^seed 100000;");
        edges.faulty(3, "law luck 1;law ^luck 10000;");
        edges.faulty(2, "kind a 1 1;kind b 1 1;kind c 1 1;kind d 1 1;kind e 1 1;kind f 1 1;^kind a 10 1;");
        edges.faulty(2, KIND + "has 0 a 1;".repeat(12) + "^has 0 b 100;");
    }

    private void misplaced() {
        edges.says("1 a TOKEN that is none (a word of more than 6 letters that isn't of the language, too) or can't stand there"
                + " (the length, if more must come).");
        edges.faulty(1, "^?");
        edges.faulty(1, "kind a 1 1^.");
        edges.faulty(1, "^purses 1 1;");
        edges.faulty(1, "^abcdefg 1 1;");
        edges.faulty(1, "law ^abcdefg 1;");
        edges.faulty(1, "law luck ^abcdefg;");
        edges.faulty(1, "law luck 1 ^abcdefg;");
        edges.faulty(1, "purse ^abcdefg");
        edges.faulty(1, "^1;");
        edges.faulty(1, "^a;");
        edges.faulty(1, "^apart 1;");
        edges.faulty(1, "^-");
        edges.faulty(1, "kind^");
        edges.faulty(1, "kind a 1 1\n  ^");
        edges.faulty(1, "law luck 1 +^");
        edges.faulty(1, "law luck not^");
        edges.faulty(1, "law luck^");
        edges.faulty(1, "law^");
        edges.faulty(1, "kind a 1 1;has 0 a -^");
    }

    private void tooMuch() {
        edges.says("2 too much (at it; of a number with - at the digits): a number beyond what is said, a seventh kind and so on"
                + " (at the word of the LINE), a ninth '(' open,");
        edges.faulty(2, "seed   ^100000;");
        edges.faulty(2, "seed ^99999999999999999999999999999999999999;");
        edges.faulty(2, "seed ^4294967296;");
        edges.faulty(2, "seed ^18446744073709551617;");
        edges.faulty(2, KIND + "has 0 a -   ^100;");
        edges.faulty(2, KIND + "deed d a -\n^10 1 1;");
        edges.faulty(2, "kind a 1 1;kind b 1 1;kind c 1 1;kind d 1 1;kind e 1 1;kind f 1 1;  ^kind");
        edges.faulty(2, KIND + "deed a a 1 1 1;deed b a 1 1 1;deed c a 1 1 1;deed d a 1 1 1;deed e a 1 1 1;"
                + "deed f a 1 1 1;deed g a 1 1 1;deed h a 1 1 1; ^deed");
        edges.faulty(2, KIND + "has 0 a 1;".repeat(12) + " ^has");
        edges.faulty(2, DEED + "do 0 d 1;".repeat(12) + " ^do");
        String eight = "(".repeat(8);
        String closed = eight + "1" + ")".repeat(8);
        edges.fine("law luck " + closed + ";", 1);
        edges.fine("law luck " + closed + "*" + closed + ";law heal " + closed + ";", 2);
        edges.faulty(2, "law luck " + eight + "^(1" + ")".repeat(9) + ";");
        edges.faulty(2, "law luck " + closed + "+" + eight + "^(");
        edges.faulty(2, "law luck " + "(".repeat(7) + "(1)" + "+(^(");
        edges.fine("law luck " + "(".repeat(7) + "(1)" + "+(1)" + ")".repeat(7) + ";", 1);
    }

    private void knots() {
        edges.says("a 65th KNOT of all E (N, NAMES, signs, not, and, or: one each).");
        String[] ones = {"1", "own", "1+1", "1<=own", "not 1", "1 and 1", "1 or 1", "((1))", "9-8*7/6"};
        int[] many = {1, 1, 3, 3, 2, 3, 3, 1, 7};
        for (int i = 0; i < ones.length; i++) {
            edges.due("count(3) of " + ones[i], edges.fine("law luck " + ones[i] + ";", 1).count(3), many[i]);
        }
        // 61 knots, so that two laws may have three more
        String ahead = "law luck 1" + "+1".repeat(30) + ";law heal ";
        edges.due("64 with a sign", edges.fine(ahead + "1*1;", 2).count(3), 64);
        edges.due("64 with not not", edges.fine(ahead + "not not own;", 2).count(3), 64);
        edges.due("64 with and", edges.fine(ahead + "(own and own);", 2).count(3), 64);
        edges.due("64 with or", edges.fine(ahead + "1 or 1;", 2).count(3), 64);
        edges.due("64 of all E", edges.fine(ahead + "1;law apart not 1;", 3).count(3), 64);
        edges.faulty(2, ahead + "1*1 ^+ 1;");
        edges.faulty(2, ahead + "1*1 ^= 1;");
        edges.faulty(2, ahead + "1*1 ^and 1;");
        edges.faulty(2, ahead + "1*1 ^or 1;");
        edges.faulty(2, ahead + "1*1;law apart ^1;");
        edges.faulty(2, ahead + "1*1;law apart ^own;");
        edges.faulty(2, ahead + "1*1;law apart ^not 1;");
        edges.faulty(2, ahead + "1*1;law apart ((^1));");
        edges.faulty(2, ahead + "not not not ^1;");
        edges.faulty(2, ahead + "1*1;law apart ^10000;");
    }

    private void toldAlready() {
        edges.says("3 told already: a name of its kind (at W), purse, wage of a TWIN (at the TWIN), seed (at the word), a law of"
                + " its LAW (at LAW).");
        edges.faulty(3, "kind a 1 1;kind b 1 1;kind ^a 1 1;");
        edges.faulty(3, "kind abcdef 1 1;kind ^abcdef 1 1;");
        edges.fine("kind abcdef 1 1;kind abcde 1 1;kind abcdeg 1 1;", 3);
        edges.faulty(3, DEED + "deed ^d a 1 1 1;");
        edges.fine("kind a 1 1;deed a a 1 1 1;kind b 1 1;deed b a 1 1 1;", 4);
        edges.faulty(3, "purse  1 1;purse  ^1 1;");
        edges.faulty(3, "wage  0 1;wage  ^0 1;");
        edges.fine("purse 0 1;purse 1 1;wage 0 1;wage 1 1;seed 1;", 5);
        edges.faulty(3, "seed 1; ^seed");
        edges.faulty(3, "law apart 1;law ^apart 1;");
        edges.faulty(3, "law heal 1;law luck 1;law ^heal 1;");
        edges.faulty(3, "law luck 1;law heal 1;law apart 1;law ^luck");
        edges.fine(KIND + "has 0 a 1;has 0 a 1;", 3);
        edges.fine(DEED + "do 0 d 1;do 0 d 1;", 4);
    }

    private void untold() {
        edges.says("4 a KIND, a DEED that isn't told ahead (at W).");
        edges.faulty(4, "has 0 ^a 1;kind a 1 1;");
        edges.faulty(4, "deed d ^a 1 1 1;kind a 1 1;");
        edges.faulty(4, KIND + "deed d ^d 1 1 1;");
        edges.faulty(4, KIND + "do 0 ^d 1;deed d a 1 1 1;");
        edges.faulty(4, DEED + "has 0 ^d 1;");
        edges.faulty(4, DEED + "do 0 ^a 1;");
        edges.faulty(4, DEED + "do 0 ^dd 1;");
        edges.faulty(4, "kind abcdef 1 1;has 0 ^abcde 1;");
    }
}
