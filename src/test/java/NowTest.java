import java.util.NoSuchElementException;

/** Promises 6 to 12: what stands now, laws and their bounds. */
final class NowTest {
    private static final Check CHECK = new Check("NowTest");
    private static final int MIN = Integer.MIN_VALUE;
    private static final String TEXT = "kind s 3 1;kind j 5 0;has 0 s -20;has 1 s -14;has 0 j 10;"
            + "deed dog s -3 5 60;deed cry j 2 4 30;do 1 dog 0;do 0 cry 7;purse 0 10;purse 1 4;wage 0 2;";

    public static void main(String[] args) {
        amounts();
        tables();
        aparts();
        laws();
        CHECK.end();
    }

    private static int thrown(TwoLevel x, int kind, int twin) {
        try {
            x.amount(kind, twin);
            return 0;
        } catch (IndexOutOfBoundsException e) {
            return 1;
        } catch (NoSuchElementException e) {
            return 2;
        }
    }

    private static void amounts() {
        TwoLevel x = Check.told(TEXT);
        CHECK.due("amount(0, 0)", x.amount(0, 0), -20);
        CHECK.due("amount(0, 1)", x.amount(0, 1), -14);
        CHECK.due("amount(1, 0)", x.amount(1, 0), 10);
        CHECK.due("amount(1, 1): 0 without", x.amount(1, 1), 0);
        CHECK.due("amount(2, 0)", thrown(x, 2, 0), 1);
        CHECK.due("amount(-1, 0)", thrown(x, -1, 0), 1);
        CHECK.due("amount(0, 2)", thrown(x, 0, 2), 2);
        CHECK.due("amount(0, -1)", thrown(x, 0, -1), 2);
        CHECK.due("amount(2, 2)", thrown(x, 2, 2), 1);
        CHECK.due("amount of no kinds", thrown(new TwoLevel(), 0, 0), 1);
    }

    private static void row(String name, int[] got, int... due) {
        for (int i = 0; i < due.length; i++) {
            CHECK.due(name + " " + i, got[i], due[i]);
        }
    }

    private static void tables() {
        TwoLevel x = Check.told(TEXT);
        row("kind(0, ..)", new int[] {x.kind(0, 0), x.kind(0, 1), x.kind(0, 2), x.kind(0, 3), x.kind(0, -1)}, 3, 1, 6, -1, -1);
        row("kind(1, ..)", new int[] {x.kind(1, 0), x.kind(1, 1), x.kind(1, 2)}, 5, 0, 10);
        row("kind", new int[] {x.kind(2, 0), x.kind(-1, 0)}, -1, -1);
        row("deed(0, ..)", new int[] {x.deed(0, 0), x.deed(0, 1), x.deed(0, 2), x.deed(0, 3)}, 0, -3, 5, 60);
        row("deed(1, ..)", new int[] {x.deed(1, 0), x.deed(1, 1), x.deed(1, 2), x.deed(1, 3)}, 1, 2, 4, 30);
        row("deed", new int[] {x.deed(2, 0), x.deed(-1, 0), x.deed(0, 4), x.deed(0, -1)}, MIN, MIN, MIN, MIN);
        row("done(0, ..)", new int[] {x.done(0, 0), x.done(0, 1), x.done(0, 2), x.done(0, 3)}, 1, 0, 0, 0);
        row("done(1, ..)", new int[] {x.done(1, 0), x.done(1, 1), x.done(1, 2), x.done(1, 3)}, 0, 1, 7, 0);
        row("done", new int[] {x.done(2, 0), x.done(-1, 0), x.done(0, 4), x.done(0, -1)}, -1, -1, -1, -1);
        row("twin(0, ..)", new int[] {x.twin(0, 0), x.twin(0, 1), x.twin(0, 2)}, 10, 2, -10);
        row("twin(1, ..)", new int[] {x.twin(1, 0), x.twin(1, 1), x.twin(1, 2)}, 4, 0, -14);
        row("twin", new int[] {x.twin(2, 0), x.twin(-1, 0), x.twin(0, 3), x.twin(0, -1)}, MIN, MIN, MIN, MIN);
        x.go(1);
        CHECK.due("refused", x.done(0, 3), 3);
        CHECK.due("gap behind a day", x.kind(0, 2), 6);
    }

    private static int apart(String law) {
        return Check.told("kind a 3 1;kind b 5 0;has 0 a -20;has 1 a -14;has 0 b 10;" + law).apart();
    }

    private static void aparts() {
        CHECK.due("gaps in sum", apart(""), 16);
        CHECK.due("by law", apart("law apart gap*shows;"), 68);
        CHECK.due("0 at least, of each", apart("law apart own;"), 10);
        CHECK.due("9999 at most, of each", apart("law apart 9999+gap;"), 19998);
        CHECK.due("gap with an error", apart("law apart 100/(own+20);"), 6 + 3);
        CHECK.due("other", apart("law apart 100+other;"), 186);
        CHECK.due("heals", apart("law apart 7+heals;"), 15);
        TwoLevel x = Check.told("kind a 0 0;law apart day*100+level;");
        x.go(3);
        CHECK.due("day, level", x.apart(), 303);
    }

    private static void laws() {
        TwoLevel x = Check.told(TEXT + "law apart own-5000;law heal own*100+other;law luck other*10+heals;");
        CHECK.due("law(0, 0, 0)", x.law(0, 0, 0), -5020);
        CHECK.due("law(0, 0, 9): the twin isn't looked at", x.law(0, 0, 9), -5020);
        CHECK.due("law(0, 1, 1)", x.law(0, 1, 1), -4990);
        CHECK.due("law(1, 0, 0)", x.law(1, 0, 0), -2014);
        CHECK.due("law(1, 0, 1)", x.law(1, 0, 1), -1420);
        CHECK.due("law(2, 0, 0)", x.law(2, 0, 0), -139);
        CHECK.due("law(2, 1, 1)", x.law(2, 1, 1), 100);
        int[][] wrong = {{3, 0, 0}, {-1, 0, 0}, {0, 2, 0}, {1, 2, 0}, {1, -1, 0}, {2, 2, 0}, {1, 0, 2}, {2, 0, -1}};
        for (int[] w : wrong) {
            CHECK.due("law(" + w[0] + ", " + w[1] + ", " + w[2] + ")", x.law(w[0], w[1], w[2]), Long.MIN_VALUE);
        }
        x = Check.told(TEXT + "law heal 1/other;");
        CHECK.due("no such law", x.law(0, 0, 0), Long.MIN_VALUE);
        CHECK.due("no such law", x.law(2, 0, 0), Long.MIN_VALUE);
        CHECK.due("an error", x.law(1, 1, 0), Long.MIN_VALUE);
        CHECK.due("no error", x.law(1, 1, 1), 0);
        x.go(1);
        CHECK.due("now", x.law(1, 0, 0), 0);
    }
}
