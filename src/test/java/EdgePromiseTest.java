import java.io.IOException;
import java.util.NoSuchElementException;

/** Promises 1 to 25, sentence by sentence. */
final class EdgePromiseTest {
    private static final int MIN = Edges.MIN;
    private static final int MAX = Edges.MAX;
    private static final int[] NO_TWINS = {-1, 2, MIN, MAX};
    /** Two KINDS, two DEEDS, two things to be done. */
    private static final String TEXT = "kind a 3 1;kind b 5 0;has 0 a -20;has 1 a -14;has 0 b 10;deed dog a -3 5 60;"
            + "deed cry b 2 4 30;do 1 dog 0;do 0 cry 7;purse 0 10;purse 1 4;wage 0 2;";
    private static final int[] NO_TWOS = {-1, 2, MIN, MAX};

    private final Edges edges = new Edges("EdgePromiseTest");

    private EdgePromiseTest() throws IOException {
    }

    public static void main(String[] args) throws IOException {
        EdgePromiseTest test = new EdgePromiseTest();
        test.newObject();
        test.feed();
        test.text();
        test.faultyText();
        test.fault();
        test.named();
        test.amount();
        test.kind();
        test.deed();
        test.done();
        test.twin();
        test.apart();
        test.law();
        test.does();
        test.give();
        test.exchange();
        test.go();
        test.ahead();
        test.next();
        test.cheap();
        test.plan();
        test.sign();
        test.wanted();
        test.edges.end();
    }

    private void newObject() {
        edges.promise(1, "A new object");
        edges.says("A TEXT without LINES;");
        TwoLevel x = new TwoLevel();
        TwoLevel y = new TwoLevel();
        y.text(0);
        edges.same("a new object", Edges.seen(x), Edges.seen(y));
        for (int what = 0; what <= 11; what++) {
            edges.due("count(" + what + ")", x.count(what), 0);
        }
        edges.due("back()", x.back(), -1);
        edges.due("undo()", x.undo(), -1);
        edges.due("go(200)", x.go(200), 200);
        edges.says("an empty TAPE.");
        edges.due("text(1)", new TwoLevel().text(1), -2);
        edges.due("text(0)", new TwoLevel().text(0), 0);
        edges.due("feed", new TwoLevel().feed(0, 0, 0, 0, 0), 20);
    }

    private void feed() {
        edges.promise(2, "feed");
        edges.says("Twenty bytes come behind the TAPE, four of each number, the highest first: how many it has;");
        TwoLevel x = new TwoLevel();
        edges.due("feed", x.feed(0x6b696e64, 0x20612031, 0x20323b68, 0x61732030, 0x2061202d), 20);
        edges.due("feed", x.feed(0x353b7365, 0x65642031, 0x3b202020, 0x20202020, 0x20202020), 40);
        edges.due("text(29)", x.text(29), 3);
        edges.due("SHOWS", x.kind(0, 0), 1);
        edges.due("HEALS", x.kind(0, 1), 2);
        edges.due("AMOUNT", x.amount(0, 0), -5);
        for (int place = 0; place < 20; place++) {
            int[] five = {0x20202020, 0x20202020, 0x20202020, 0x20202020, 0x20202020};
            // all bits of one byte: no token, so the fault tells its place
            five[place / 4] |= 255 << 8 * (3 - place % 4);
            x.feed(five[0], five[1], five[2], five[3], five[4]);
            edges.due("text(20)", x.text(20), -1);
            edges.due("the place of a byte", x.fault(1), place);
        }
        edges.says("NONE, and none come, if it would have more than 700.");
        x = new TwoLevel();
        for (int i = 1; i <= 34; i++) {
            edges.due("feed", x.feed(0x20202020, 0x20202020, 0x20202020, 0x20202020, 0x20202020), 20 * i);
        }
        edges.due("700", x.feed(0x20202020, 0x20202020, 0x73656564, 0x20313233, 0x3435203b), 700);
        edges.due("720", x.feed(0, 0, 0, 0, 0), -1);
        edges.due("720 again", x.feed(0, 0, 0, 0, 0), -1);
        edges.due("text(701)", x.text(701), -2);
        edges.due("the 700 stay", x.text(700), 1);
        edges.due("room again", x.feed(0, 0, 0, 0, 0), 20);
    }

    private void text() {
        edges.promise(3, "text");
        edges.says("The TAPE's first n bytes (it is empty then) are the TEXT (DAY 0, LEVEL on no DAY, nothing done, no NOTES,"
                + " SIGHTS, all KNOWN, no IMAGE, nothing to undo then): how many LINES;");
        TwoLevel x = Check.told("kind c 1 1;deed d c 1 0 50;do 0 d 0;do 0 d 1;do 1 d 5;");
        x.go(3);
        x.note(0, 99, true);
        x.see(1, 0, 99, true);
        x.strike(0);
        x.known(0);
        x.keep();
        x.give(0, 5);
        x.does(0, 0, true);
        Check.feed(x, (TEXT + "kind c 1 1;").getBytes(java.nio.charset.StandardCharsets.ISO_8859_1));
        edges.due("text", x.text(TEXT.length()), 12);
        edges.same("what is seen", Edges.seen(x), Edges.seen(Check.told(TEXT)));
        edges.due("the TAPE is empty: text(1)", x.text(1), -2);
        edges.due("the TAPE is empty: feed", x.feed(0, 0, 0, 0, 0), 20);
        edges.due("DAY", x.count(4), 0);
        edges.due("LEVEL", x.count(5), 0);
        edges.due("done(0, 3)", x.done(0, 3), 0);
        edges.due("count(9)", x.count(9), 0);
        edges.due("count(10)", x.count(10), 0);
        edges.due("undo()", x.undo(), -1);
        edges.due("back()", x.back(), -1);
        edges.due("a NOTE is 0 again", x.note(0, 0, true), 0);
        edges.due("it is KNOWN", x.who(), 0);
        edges.due("text(0)", x.text(0), 0);
        edges.same("what is seen", Edges.seen(x), Edges.seen(new TwoLevel()));
        // the seed anew: the first number of seed 0 is 0, the next ones are not
        String one = "kind a 1 0;deed d a 1 0 1;do 0 d 0;";
        for (int i = 0; i < 3; i++) {
            edges.due("text", Check.tell(x, one), 3);
            x.go(1);
            edges.due("the first number", x.done(0, 3), 1);
        }
        // exactly as many as there are, and one less
        Check.feed(x, "seed 1;seed 1;      ".getBytes(java.nio.charset.StandardCharsets.ISO_8859_1));
        edges.due("text(7) of 20", x.text(7), 1);
        Check.feed(x, "seed 123456789;wage;".getBytes(java.nio.charset.StandardCharsets.ISO_8859_1));
        edges.due("text(9) of 20", x.text(9), -1);
        edges.due("fault(1)", x.fault(1), 9);

        edges.says("-2, and the TAPE stays: there are not so many, n is below 0.");
        for (int n : new int[] {21, 22, 700, 701, MAX, -1, -2, MIN}) {
            edges.refused("text(" + n + ")", EdgePromiseTest::faultAndTape, y -> y.text(n), -2);
            TwoLevel y = faultAndTape();
            edges.due("text(" + n + ")", y.text(n), -2);
            edges.due("the FAULT stays", y.fault(0), 1);
            edges.due("its place stays", y.fault(1), 6);
            edges.due("the TAPE stays", y.feed(0, 0, 0, 0, 0), 40);
            edges.due("text(19)", y.text(19), 1);
        }
    }

    /** A FAULT at 6, twenty bytes on the TAPE, of which the last one is no token, and something to undo. */
    private static TwoLevel faultAndTape() {
        TwoLevel x = Check.told(TEXT);
        Check.tell(x, "kind a");
        x.feed(0x73656564, 0x20313b20, 0x20202020, 0x20202020, 0x2020203f);
        x.give(0, 5);
        return x;
    }

    private void faultyText() {
        edges.says("NONE with a FAULT, all stays;");
        String[] faulty = {"kind z 9 9;has 0 z 9;purse 0 7;wage 0 7;seed 7;law apart 7;?", "kind a 1 1;kind a 1 1;", "has 0 a 1;",
            "kind a 1", "seed 100000;"};
        for (String text : faulty) {
            TwoLevel x = Check.told(TEXT + "law apart gap+shows;");
            x.go(2);
            x.note(0, -20, true);
            x.known(1);
            x.keep();
            x.give(0, 3);
            String before = Edges.seen(x).replaceFirst("fault -?\\d+ -?\\d+", "");
            edges.due("text", Check.tell(x, text), -1);
            edges.same("what is seen", Edges.seen(x).replaceFirst("fault -?\\d+ -?\\d+", ""), before);
            edges.due("the law", x.law(0, 0, 0), x.kind(0, 2) + 3);
            edges.due("a name", x.named(0, Check.letters("z")), -1);
            edges.due("the TAPE is empty", x.text(1), -2);
            edges.due("there is something to undo", x.undo(), 0);
            edges.due("the IMAGE", x.back(), 2);
            edges.due("goes on", x.go(1), 3);
        }
    }

    private void fault() {
        edges.promise(4, "fault");
        edges.says("Of the latest text() that was not -2, what 0: its FAULT (0), 1: its place (NONE without).");
        TwoLevel x = new TwoLevel();
        edges.due("none yet", x.fault(0), 0);
        edges.due("none yet", x.fault(1), -1);
        String[] texts = {"?", "kind a 10 1;", "seed 1;seed 1;", "has 0 a 1;", "seed 1;", "seed"};
        int[] faults = {1, 2, 3, 4, 0, 1};
        int[] places = {0, 7, 7, 6, -1, 4};
        for (int i = 0; i < texts.length; i++) {
            Check.tell(x, texts[i]);
            x.text(99);
            x.text(-1);
            edges.due("fault(0)", x.fault(0), faults[i]);
            edges.due("fault(1)", x.fault(1), places[i]);
        }
        edges.says("NONE for another what.");
        for (int what : NO_TWOS) {
            edges.due("fault(" + what + ")", x.fault(what), -1);
        }
    }

    private void named() {
        edges.promise(5, "named");
        edges.says("The number of a KIND (what 0), DEED (1) by its letters, 5 bits each (a is 1; the first one highest of six, 0"
                + " behind the last one);");
        TwoLevel x = Check.told("kind a 1 1;kind abcdef 1 1;kind z 1 1;kind zzzzzz 1 1;deed b a 1 1 1;deed zzzzzz a 1 1 1;");
        edges.due("a", x.named(0, 1 << 25), 0);
        edges.due("abcdef", x.named(0, 1 << 25 | 2 << 20 | 3 << 15 | 4 << 10 | 5 << 5 | 6), 1);
        edges.due("z", x.named(0, 26 << 25), 2);
        edges.due("zzzzzz", x.named(0, 26 << 25 | 26 << 20 | 26 << 15 | 26 << 10 | 26 << 5 | 26), 3);
        edges.due("DEED b", x.named(1, 2 << 25), 0);
        edges.due("DEED zzzzzz", x.named(1, Check.letters("zzzzzz")), 1);
        edges.says("NONE: there is none such.");
        int[] letters = {0, 1, -1, MIN, MAX, 1 << 20, 2 << 25, 1 << 25 | 1, 1 << 25 | 1 << 30, 1 << 25 | 1 << 31, 27 << 25};
        for (int some : letters) {
            edges.due("KIND " + some, x.named(0, some), -1);
        }
        edges.due("DEED a", x.named(1, 1 << 25), -1);
        for (int what : NO_TWOS) {
            edges.due("what " + what, x.named(what, 1 << 25), -1);
        }
        edges.due("of none", new TwoLevel().named(0, 0), -1);
        edges.due("of none", new TwoLevel().named(1, 0), -1);
        // names of the text ahead are gone
        Check.tell(x, "kind q 1 1;");
        edges.due("z is gone", x.named(0, 26 << 25), -1);
        edges.due("a is gone", x.named(0, 1 << 25), -1);
        edges.due("b is gone", x.named(1, 2 << 25), -1);
    }

    private static int thrown(TwoLevel x, int kind, int twin) {
        try {
            x.amount(kind, twin);
            return 0;
        } catch (IndexOutOfBoundsException e) {
            return e.getClass() == IndexOutOfBoundsException.class ? 1 : 3;
        } catch (NoSuchElementException e) {
            return e.getClass() == NoSuchElementException.class ? 2 : 4;
        }
    }

    private void amount() {
        edges.promise(6, "amount");
        TwoLevel x = Check.told(TEXT);
        edges.says("AMOUNT of a KIND that a TWIN has now.");
        edges.due("amount(0, 0)", x.amount(0, 0), -20);
        edges.due("amount(0, 1)", x.amount(0, 1), -14);
        edges.due("amount(1, 0)", x.amount(1, 0), 10);
        edges.due("amount(1, 1)", x.amount(1, 1), 0);
        edges.says("IndexOutOfBoundsException: no such KIND.");
        for (int kind : NO_TWOS) {
            edges.refused("amount(" + kind + ", 0)", TEXT, y -> thrown(y, kind, 0), 1);
            edges.due("amount(" + kind + ", 1)", thrown(x, kind, 1), 1);
            edges.due("amount(" + kind + ", 2)", thrown(x, kind, 2), 1);
        }
        edges.due("amount(0, 0) of no KINDS", thrown(new TwoLevel(), 0, 0), 1);
        String six = "kind a 1 1;kind b 1 1;kind c 1 1;kind d 1 1;kind e 1 1;kind f 1 1;has 1 f 7;";
        edges.due("the last of six", Check.told(six).amount(5, 1), 7);
        edges.due("behind the last of six", thrown(Check.told(six), 6, 1), 1);
        edges.says("NoSuchElementException: no such TWIN.");
        for (int twin : NO_TWINS) {
            edges.refused("amount(0, " + twin + ")", TEXT, y -> thrown(y, 0, twin), 2);
            edges.due("amount(1, " + twin + ")", thrown(x, 1, twin), 2);
        }
    }

    private void kind() {
        edges.promise(7, "kind");
        TwoLevel x = Check.told(TEXT);
        edges.says("Of a KIND, what 0 SHOWS, 1 HEALS, 2 GAP now.");
        int[][] due = {{3, 1, 6}, {5, 0, 10}};
        for (int kind = 0; kind < 2; kind++) {
            for (int what = 0; what < 3; what++) {
                edges.due("kind(" + kind + ", " + what + ")", x.kind(kind, what), due[kind][what]);
            }
        }
        x.does(0, 0, true);
        edges.due("GAP now", x.kind(0, 2), 9);
        x.does(0, 1, true);
        edges.due("GAP now", x.kind(1, 2), 12);
        edges.says("NONE: no such ones.");
        for (int no : NO_TWOS) {
            edges.due("kind(" + no + ", 0)", x.kind(no, 0), -1);
            edges.due("kind(" + no + ", 2)", x.kind(no, 2), -1);
            edges.due("kind(" + no + ", " + no + ")", x.kind(no, no), -1);
        }
        for (int what : new int[] {-1, 3, MIN, MAX}) {
            edges.due("kind(0, " + what + ")", x.kind(0, what), -1);
        }
        edges.due("kind(0, 0) of none", new TwoLevel().kind(0, 0), -1);
    }

    private void deed() {
        edges.promise(8, "deed");
        TwoLevel x = Check.told(TEXT);
        edges.says("Of a DEED, what 0 KIND, 1 BY, 2 COST, 3 ODDS.");
        int[][] due = {{0, -3, 5, 60}, {1, 2, 4, 30}};
        for (int deed = 0; deed < 2; deed++) {
            for (int what = 0; what < 4; what++) {
                edges.due("deed(" + deed + ", " + what + ")", x.deed(deed, what), due[deed][what]);
            }
        }
        edges.says("Integer.MIN_VALUE: no such ones.");
        for (int no : NO_TWOS) {
            edges.due("deed(" + no + ", 0)", x.deed(no, 0), MIN);
            edges.due("deed(" + no + ", 3)", x.deed(no, 3), MIN);
        }
        for (int what : new int[] {-1, 4, MIN, MAX}) {
            edges.due("deed(0, " + what + ")", x.deed(0, what), MIN);
        }
        edges.due("deed(0, 0) of none", new TwoLevel().deed(0, 0), MIN);
        String eight = "kind k 1 1;";
        for (int i = 0; i < 8; i++) {
            eight += "deed " + (char) ('a' + i) + " k " + i + " 1 1;";
        }
        edges.due("the last of eight", Check.told(eight).deed(7, 1), 7);
        edges.due("behind the last of eight", Check.told(eight).deed(8, 1), MIN);
    }

    private void done() {
        edges.promise(9, "done");
        TwoLevel x = Check.told("kind a 1 0;deed d a 1 5 100;deed e a 1 5 0;deed f a 1 6 100;do 1 d 0;do 0 e 1;do 0 f 2;"
                + "do 1 d 3;purse 1 5;purse 0 10;");
        edges.says("Of what is to be done, what 0 TWIN, 1 DEED, 2 DAY, 3: 0 not yet, 1 it came OFF, 2 IN VAIN, 3 REFUSED.");
        int[][] due = {{1, 0, 0}, {0, 1, 1}, {0, 2, 2}, {1, 0, 3}};
        int[] outcomes = {1, 2, 3, 3};
        for (int day = 0; day <= 4; day++) {
            for (int i = 0; i < 4; i++) {
                for (int what = 0; what < 3; what++) {
                    edges.due("done(" + i + ", " + what + ") on DAY " + day, x.done(i, what), due[i][what]);
                }
                edges.due("done(" + i + ", 3) on DAY " + day, x.done(i, 3), day > i ? outcomes[i] : 0);
            }
            x.go(1);
        }
        edges.says("NONE: no such ones.");
        for (int no : new int[] {-1, 4, MIN, MAX}) {
            edges.due("done(" + no + ", 0)", x.done(no, 0), -1);
            edges.due("done(" + no + ", 3)", x.done(no, 3), -1);
            edges.due("done(0, " + no + ")", x.done(0, no), -1);
        }
        edges.due("done(0, 0) of none", new TwoLevel().done(0, 0), -1);
        x = Check.told("kind a 1 0;deed d a 1 5 100;" + "do 1 d 7;".repeat(12));
        edges.due("the last of twelve", x.done(11, 2), 7);
        edges.due("behind the last of twelve", x.done(12, 2), -1);
    }

    private void twin() {
        edges.promise(10, "twin");
        TwoLevel x = Check.told(TEXT);
        edges.says("Of a TWIN now, what 0 PURSE, 1 WAGE, 2 HAPPY.");
        int[][] due = {{10, 2, -10}, {4, 0, -14}};
        for (int twin = 0; twin < 2; twin++) {
            for (int what = 0; what < 3; what++) {
                edges.due("twin(" + twin + ", " + what + ")", x.twin(twin, what), due[twin][what]);
            }
        }
        x.go(1);
        edges.due("PURSE now", x.twin(0, 0), 12);
        edges.due("HAPPY now", x.twin(1, 2), -13);
        edges.says("Integer.MIN_VALUE: no such ones.");
        for (int twin : NO_TWINS) {
            for (int what = 0; what < 3; what++) {
                edges.due("twin(" + twin + ", " + what + ")", x.twin(twin, what), MIN);
            }
        }
        for (int what : new int[] {-1, 3, MIN, MAX}) {
            edges.due("twin(0, " + what + ")", x.twin(0, what), MIN);
            edges.due("twin(1, " + what + ")", x.twin(1, what), MIN);
        }
    }

    private void apart() {
        edges.promise(11, "apart");
        edges.says("APART now.");
        TwoLevel x = Check.told(TEXT + "law apart gap*shows+day;");
        edges.due("apart()", x.apart(), 68);
        x.exchange(1);
        edges.due("apart() behind an exchange", x.apart(), 68);
        x.does(0, 1, true);
        edges.due("apart() behind a DEED", x.apart(), 58);
        x.go(1);
        edges.due("apart() behind a DAY", x.apart(), 60);
        edges.due("apart() of no KINDS", new TwoLevel().apart(), 0);
    }

    private void law() {
        edges.promise(12, "law");
        String laws = "law apart own-5000;law heal own*100+other;law luck other*10+heals;";
        edges.says("A law's E now (what 0 apart of a KIND; 1 heal of a KIND, 2 luck of a DEED for a TWIN; which is the KIND, the"
                + " DEED; of 0 the TWIN isn't looked at).");
        TwoLevel x = Check.told(TEXT + laws);
        edges.due("law(0, 0, 0)", x.law(0, 0, 0), -5020);
        edges.due("law(0, 1, 0)", x.law(0, 1, 0), -4990);
        for (int twin : new int[] {1, 2, -1, MIN, MAX}) {
            edges.due("law(0, 0, " + twin + ")", x.law(0, 0, twin), -5020);
        }
        edges.due("law(1, 0, 0)", x.law(1, 0, 0), -2014);
        edges.due("law(1, 0, 1)", x.law(1, 0, 1), -1420);
        edges.due("law(1, 1, 1)", x.law(1, 1, 1), 10);
        edges.due("law(2, 0, 0)", x.law(2, 0, 0), -139);
        edges.due("law(2, 0, 1)", x.law(2, 0, 1), -199);
        edges.due("law(2, 1, 1)", x.law(2, 1, 1), 100);
        x.exchange(0);
        edges.due("now", x.law(0, 0, 0), -5014);
        edges.due("as far as values go", Check.told("kind a 1 1;law heal 1000*1000*1000*1000;").law(1, 0, 0), 1000000000000L);

        edges.says("Long.MIN_VALUE: an ERROR, no such law, no such ones.");
        long none = Long.MIN_VALUE;
        for (int no : NO_TWOS) {
            edges.due("apart of KIND " + no, x.law(0, no, 0), none);
            edges.due("heal of KIND " + no, x.law(1, no, 0), none);
            edges.due("luck of DEED " + no, x.law(2, no, 0), none);
            edges.due("heal of TWIN " + no, x.law(1, 0, no), none);
            edges.due("luck of TWIN " + no, x.law(2, 0, no), none);
        }
        for (int what : new int[] {-1, 3, MIN, MAX}) {
            edges.due("what " + what, x.law(what, 0, 0), none);
        }
        TwoLevel y = Check.told(TEXT);
        for (int what = 0; what < 3; what++) {
            edges.due("no law " + what, y.law(what, 0, 0), none);
            edges.due("no KINDS, no DEEDS " + what, Check.told(laws).law(what, 0, 0), none);
        }
        y = Check.told("kind a 1 1;kind b 1 1;has 1 b 1;deed d b 1 1 1;law apart 1/other;law heal 1/own;law luck own/0;");
        edges.due("ERROR of KIND 0", y.law(0, 0, 0), none);
        edges.due("none of KIND 1", y.law(0, 1, 0), 1);
        edges.due("ERROR of TWIN 0", y.law(1, 1, 0), none);
        edges.due("none of TWIN 1", y.law(1, 1, 1), 1);
        edges.due("ERROR of luck", y.law(2, 0, 0), none);
        // three KINDS and one DEED, one KIND and two DEEDS
        y = Check.told("kind a 1 1;kind b 1 1;kind c 1 1;deed d c 1 1 1;law apart 5;law heal 6;law luck 7;");
        edges.due("KIND 2", y.law(0, 2, 0), 5);
        edges.due("DEED 1", y.law(2, 1, 0), none);
        y = Check.told("kind a 1 1;deed d a 1 1 1;deed e a 1 1 1;law apart 5;law heal 6;law luck 7;");
        edges.due("KIND 1", y.law(1, 1, 0), none);
        edges.due("DEED 1", y.law(2, 1, 0), 7);
    }

    private void does() {
        edges.promise(13, "does");
        edges.says("A TWIN does a DEED now; it comes OFF, or doesn't, as told (no number): PURSE;");
        TwoLevel x = Check.told("kind a 1 0;kind b 1 0;deed d b -9 5 0;deed e a 9 0 100;deed f a 1 0 1;do 0 f 0;purse 0 12;law luck 1;");
        edges.due("OFF against ODDS", x.does(0, 0, true), 7);
        edges.due("AMOUNT", x.amount(1, 0), -9);
        edges.due("not OFF", x.does(0, 0, false), 2);
        edges.due("AMOUNT", x.amount(1, 0), -9);
        edges.due("not OFF against ODDS", x.does(1, 1, false), 0);
        edges.due("AMOUNT", x.amount(0, 1), 0);
        edges.due("of TWIN 1", x.does(1, 1, true), 0);
        edges.due("AMOUNT", x.amount(0, 1), 9);
        edges.due("of TWIN 0", x.amount(0, 0), 0);
        edges.due("not by days", x.count(6) + x.count(7) + x.count(8), 0);
        edges.due("what is to be done stays so", x.done(0, 3), 0);
        x.go(1);
        edges.due("no number: 0 is still the first", x.done(0, 3), 1);
        x = Check.told("kind a 1 0;has 0 a 99;deed u a 9 0 0;deed v a 1 0 0;deed w a -9 0 0;");
        for (int i = 0; i < 101; i++) {
            x.does(0, 0, true);
            x.does(1, 2, true);
        }
        edges.due("999 at most", x.amount(0, 0), 999);
        x.does(0, 1, true);
        edges.due("999 at most", x.amount(0, 0), 999);
        edges.due("-909", x.amount(0, 1), -909);
        for (int i = 0; i < 11; i++) {
            x.does(1, 2, true);
        }
        edges.due("-999 at least", x.amount(0, 1), -999);

        String text = "kind a 1 0;deed d a 1 5 0;deed e a 1 6 0;deed f a 1 0 0;purse 0 5;";
        edges.says("-2: PURSE hasn't COST;");
        edges.refused("COST 6 of 5", text, y -> y.does(0, 1, true), -2);
        edges.refused("COST 6 of 5", text, y -> y.does(0, 1, false), -2);
        edges.refused("COST 5 of 0", text, y -> y.does(1, 0, true), -2);
        x = Check.told(text);
        edges.due("COST 5 of 5", x.does(0, 0, true), 0);
        edges.due("COST 5 of 0", x.does(0, 0, true), -2);
        edges.due("COST 0 of 0", x.does(0, 2, true), 0);
        edges.says("NONE: no such ones.");
        for (int twin : NO_TWINS) {
            edges.refused("does(" + twin + ", 2, true)", text, y -> y.does(twin, 2, true), -1);
        }
        for (int deed : new int[] {-1, 3, MIN, MAX}) {
            edges.refused("does(0, " + deed + ", true)", text, y -> y.does(0, deed, true), -1);
        }
        edges.due("does(2, 1, true)", x.does(2, 1, true), -1);
        edges.due("no DEEDS", new TwoLevel().does(0, 0, true), -1);
    }

    private void give() {
        edges.promise(14, "give");
        edges.says("A TWIN is given so much 1 .. 99 (PURSE 9999 at most): PURSE;");
        TwoLevel x = Check.told("purse 0 999;");
        edges.due("1", x.give(1, 1), 1);
        edges.due("99", x.give(1, 99), 100);
        edges.due("of the other", x.twin(0, 0), 999);
        for (int i = 1; i <= 90; i++) {
            edges.due("99", x.give(0, 99), 999 + 99 * i);
        }
        edges.due("9998", x.give(0, 89), 9998);
        edges.due("9999", x.give(0, 1), 9999);
        x.undo();
        edges.due("9999 at most", x.give(0, 2), 9999);
        edges.due("9999 at most", x.give(0, 99), 9999);
        edges.due("twin(0, 0)", x.twin(0, 0), 9999);
        edges.says("NONE: no such ones.");
        for (int much : new int[] {0, 100, -1, MIN, MAX}) {
            edges.refused("give(1, " + much + ")", TEXT, y -> y.give(1, much), -1);
        }
        for (int twin : NO_TWINS) {
            edges.refused("give(" + twin + ", 1)", TEXT, y -> y.give(twin, 1), -1);
        }
    }

    private void exchange() {
        edges.promise(15, "exchange");
        edges.says("Both exchange what they have of a KIND: true;");
        String text = "kind a 1 0;kind b 1 0;has 0 a 5;has 1 a -7;has 0 b 2;has 1 b 2;purse 0 3;";
        TwoLevel x = Check.told(text);
        edges.due("exchange(0)", x.exchange(0), true);
        edges.due("amount(0, 0)", x.amount(0, 0), -7);
        edges.due("amount(0, 1)", x.amount(0, 1), 5);
        edges.due("of another KIND", x.amount(1, 0) * 10 + x.amount(1, 1), 22);
        edges.due("not of PURSE", x.twin(0, 0), 3);
        edges.due("GAP 1", Check.told("kind a 1 0;has 0 a 1;").exchange(0), true);
        edges.says("false: no such KIND, GAP is 0.");
        for (int kind : NO_TWOS) {
            edges.refused("exchange(" + kind + ")", text, y -> y.exchange(kind) ? 1 : 0, 0);
        }
        edges.refused("GAP 0", text, y -> y.exchange(1) ? 1 : 0, 0);
        edges.due("no KINDS", new TwoLevel().exchange(0), false);
    }

    private void go() {
        edges.promise(16, "go");
        edges.says("So many DAYS (0 .. 200) go by: which one it is;");
        TwoLevel x = Check.told("kind a 1 0;deed d a 1 0 100;do 0 d 0;");
        edges.due("go(0)", x.go(0), 0);
        edges.due("nothing is done", x.done(0, 3), 0);
        edges.due("go(1)", x.go(1), 1);
        edges.due("go(200)", x.go(200), 201);
        edges.says("NONE, and none does: no such number, behind 9000.");
        for (int n : new int[] {-1, 201, MIN, MAX}) {
            edges.refused("go(" + n + ")", TEXT, y -> y.go(n), -1);
        }
        edges.refused("go(2) on 8999", () -> on(8999), y -> y.go(2), -1);
        edges.refused("go(200) on 8999", () -> on(8999), y -> y.go(200), -1);
        edges.refused("go(1) on 9000", () -> on(9000), y -> y.go(1), -1);
        edges.refused("go(200) on 8801", () -> on(8801), y -> y.go(200), -1);
        edges.due("go(200) on 8800", on(8800).go(200), 9000);
        edges.due("go(1) on 8999", on(8999).go(1), 9000);
        edges.due("go(0) on 9000", on(9000).go(0), 9000);
        edges.due("PURSE", on(9000).twin(0, 0), 9000);
        edges.due("ahead goes beyond", on(9000).ahead(200, 2, 0), 9200);
    }

    private static TwoLevel on(int day) {
        TwoLevel x = Check.told("kind a 1 0;wage 0 1;");
        for (int i = 0; i < day / 200; i++) {
            x.go(200);
        }
        x.go(day % 200);
        x.give(1, 1);
        return x;
    }

    private void ahead() {
        edges.promise(17, "ahead");
        TwoLevel x = Check.told(TEXT);
        edges.says("AHEAD (n 0 .. 200), what 0 APART, 1 LEVEL, 2 PURSE, 3 HAPPY of a TWIN (else it isn't looked at), 4 OFF.");
        edges.due("APART", x.ahead(0, 0, 0), 16);
        edges.due("APART of 200", x.ahead(200, 0, 0), 10);
        edges.due("LEVEL of 200", x.ahead(200, 1, 0), 0);
        edges.due("PURSE of 200", x.ahead(200, 2, 0), 406);
        edges.due("PURSE of the other", x.ahead(200, 2, 1), 4);
        edges.due("HAPPY", x.ahead(1, 3, 0), -9);
        edges.due("HAPPY of the other", x.ahead(1, 3, 1), -13);
        edges.due("OFF: REFUSED and ODDS 30", x.ahead(200, 4, 0), 0);
        for (int twin : NO_TWINS) {
            edges.due("APART of TWIN " + twin, x.ahead(0, 0, twin), 16);
            edges.due("LEVEL of TWIN " + twin, x.ahead(0, 1, twin), 0);
            edges.due("OFF of TWIN " + twin, x.ahead(0, 4, twin), 0);
        }
        edges.says("Integer.MIN_VALUE: no such ones.");
        for (int twin : NO_TWINS) {
            edges.due("PURSE of TWIN " + twin, x.ahead(0, 2, twin), MIN);
            edges.due("HAPPY of TWIN " + twin, x.ahead(0, 3, twin), MIN);
        }
        for (int what = 0; what <= 4; what++) {
            for (int n : new int[] {-1, 201, MIN, MAX}) {
                edges.due("ahead(" + n + ", " + what + ", 0)", x.ahead(n, what, 0), MIN);
            }
        }
        for (int what : new int[] {-1, 5, MIN, MAX}) {
            edges.due("ahead(1, " + what + ", 0)", x.ahead(1, what, 0), MIN);
        }
    }

    private void next() {
        edges.promise(18, "nextLevel");
        edges.says("NEXT LEVEL;");
        edges.due("3 by 1", Check.told("kind a 1 1;has 0 a 3;").nextLevel(), 3);
        edges.says("-2: not by then.");
        edges.due("3 by 0", Check.told("kind a 1 0;has 0 a 3;").nextLevel(), -2);
        edges.due("behind 199", Check.told("kind a 1 0;has 0 a 1;law heal day=199;").nextLevel(), -2);
        edges.due("behind 198", Check.told("kind a 1 0;has 0 a 1;law heal day=198;").nextLevel(), 199);
        edges.promise(19, "nextOut");
        edges.says("NEXT OUT;");
        edges.due("in 3", Check.told("kind a 1 0;deed d a 1 0 100;do 0 d 2;").nextOut(), 3);
        edges.says("-2: not by then.");
        edges.due("never", Check.told("kind a 1 0;deed d a 1 0 0;do 0 d 2;").nextOut(), -2);
        TwoLevel x = Check.told("kind a 1 0;deed d a 1 0 100;do 0 d 2;");
        String before = Edges.seen(x);
        x.nextOut();
        x.nextLevel();
        edges.same("what is seen", Edges.seen(x), before);
    }

    private void cheap() {
        edges.promise(20, "cheap");
        edges.says("CHEAP;");
        TwoLevel x = Check.told("kind a 1 0;kind b 1 0;has 0 a 6;has 0 b 3;deed d a -3 7 0;deed e b 2 1 0;");
        edges.due("cheap(0)", x.cheap(0), 14);
        edges.says("-2: by none, what one has more is beyond 200;");
        edges.due("3 by 2", x.cheap(1), -2);
        edges.due("no DEEDS", Check.told("kind a 1 0;has 0 a 1;").cheap(0), -2);
        for (int twin = 0; twin < 2; twin++) {
            TwoLevel y = Check.told("kind a 1 0;has " + twin + " a 99;has " + (1 - twin) + " a -99;deed d a 1 3 0;");
            y.give(twin, 99);
            edges.due("198", y.cheap(0), 594);
            y.does(twin, 0, true);
            y.does(twin, 0, true);
            edges.due("200", y.cheap(0), 600);
            y.does(twin, 0, true);
            edges.due("201", y.cheap(0), -2);
            edges.due("few of 201", y.few(0), -2);
        }
        edges.says("NONE: no such KIND.");
        String text = "kind a 1 0;kind b 1 0;has 0 a 6;deed d a -3 7 0;";
        for (int kind : NO_TWOS) {
            edges.refused("cheap(" + kind + ")", text, y -> y.cheap(kind), -1);
        }
        edges.promise(21, "few");
        edges.says("FEW;");
        edges.due("few(0)", x.few(0), 2);
        edges.says("-2, NONE likewise.");
        edges.due("3 by 2", x.few(1), -2);
        edges.due("no DEEDS", Check.told("kind a 1 0;has 0 a 1;").few(0), -2);
        for (int kind : NO_TWOS) {
            edges.refused("few(" + kind + ")", text, y -> y.few(kind), -1);
        }
    }

    private void plan() {
        edges.promise(22, "plan");
        String text = "kind a 1 0;has 0 a 99;deed d a -9 5 0;deed e a -8 0 0;purse 0 9;wage 0 3;";
        TwoLevel x = Check.told(text);
        // d is paid of 9, 7 and 5, and not of 3
        edges.says("PLAN, what 0 .. 3: the DEED of that DAY (-2: none, there are not so many DAYS), 4: APART then.");
        edges.due("plan(0, 1, 0)", x.plan(0, 1, 0), 0);
        edges.due("plan(0, 1, 1)", x.plan(0, 1, 1), -2);
        edges.due("plan(0, 1, 4)", x.plan(0, 1, 4), 90);
        int[] due = {0, 0, 0, 1};
        for (int what = 0; what < 4; what++) {
            edges.due("plan(0, 4, " + what + ")", x.plan(0, 4, what), due[what]);
        }
        edges.due("plan(0, 4, 4)", x.plan(0, 4, 4), 64);
        edges.due("plan(0, 3, 3)", x.plan(0, 3, 3), -2);
        edges.due("plan(1, 4, 0): none", x.plan(1, 4, 0), -2);
        edges.due("plan(1, 4, 4)", x.plan(1, 4, 4), 99);
        edges.says("NONE: no such ones.");
        for (int twin : NO_TWINS) {
            edges.refused("plan(" + twin + ", 1, 0)", text, y -> y.plan(twin, 1, 0), -1);
            edges.due("plan(" + twin + ", 1, 4)", x.plan(twin, 1, 4), -1);
        }
        for (int n : new int[] {0, 5, -1, MIN, MAX}) {
            edges.due("plan(0, " + n + ", 0)", x.plan(0, n, 0), -1);
            edges.due("plan(0, " + n + ", 4)", x.plan(0, n, 4), -1);
        }
        for (int what : new int[] {-1, 5, MIN, MAX}) {
            edges.due("plan(0, 4, " + what + ")", x.plan(0, 4, what), -1);
        }
        edges.due("no KINDS", new TwoLevel().plan(0, 4, 0), -2);
        edges.due("no KINDS", new TwoLevel().plan(0, 4, 4), 0);
    }

    private void sign() {
        edges.promise(23, "sign");
        edges.says("SIGN;");
        edges.due("sign()", Check.told(TEXT).sign(), 1);
        edges.says("-2: none shows;");
        edges.due("GAPS are 0", Check.told("kind a 9 0;kind b 9 0;has 0 b 5;has 1 b 5;").sign(), -2);
        edges.due("SHOWS are 0", Check.told("kind a 0 0;has 0 a 5;").sign(), -2);
        edges.due("the one or the other is 0", Check.told("kind a 0 0;kind b 9 0;has 0 a 5;").sign(), -2);
        edges.due("1 by 1", Check.told("kind a 0 0;kind b 1 0;has 0 b 1;").sign(), 1);
        edges.says("NONE: there are no KINDS.");
        edges.due("no KINDS", new TwoLevel().sign(), -1);
        edges.due("no KINDS", Check.told("seed 5;purse 0 1;").sign(), -1);

        edges.promise(24, "tells");
        edges.says("TELLS (bits).");
        edges.due("tells()", Check.told(TEXT).tells(), 3);
        edges.due("no KINDS", new TwoLevel().tells(), 0);
    }

    private void wanted() {
        edges.promise(25, "wanted");
        TwoLevel x = Check.told(TEXT);
        edges.says("WANTED (bits);");
        edges.due("wanted(0)", x.wanted(0), 1);
        edges.due("wanted(1)", x.wanted(1), 2);
        edges.says("NONE: no such TWIN.");
        for (int twin : NO_TWINS) {
            edges.refused("wanted(" + twin + ")", TEXT, y -> y.wanted(twin), -1);
        }
    }
}
