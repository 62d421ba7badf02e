/** Promises 38 to 43: notes, sights, strikes, what is known, who it is, how a kind heals. */
final class ToldTest {
    private static final Check CHECK = new Check("ToldTest");

    public static void main(String[] args) {
        notes();
        wrong();
        strikes();
        known();
        healings();
        sightsOfTheText();
        CHECK.end();
    }

    private static void notes() {
        TwoLevel x = Check.told("kind a 1 0;kind b 1 0;has 0 a 5;has 1 a 3;has 0 b -2;deed d a 2 0 100;do 1 d 0;");
        CHECK.due("who() of none", x.who(), 3);
        CHECK.due("note(0, 3, true)", x.note(0, 3, true), 0);
        CHECK.due("both have 3 at least", x.who(), 3);
        CHECK.due("note(0, 4, true)", x.note(0, 4, true), 1);
        CHECK.due("twin 0 alone", x.who(), 1);
        x.go(1);
        CHECK.due("now both", x.who(), 3);
        CHECK.due("note(1, 0, false)", x.note(1, 0, false), 2);
        CHECK.due("twin 0 has less than 0", x.who(), 1);
        CHECK.due("note(1, -2, false)", x.note(1, -2, false), 3);
        CHECK.due("none", x.who(), 0);
        CHECK.due("count(9)", x.count(9), 4);
        CHECK.due("sights don't tell who", x.see(1, 0, 999, true), 4);
        CHECK.due("none", x.who(), 0);
    }

    private static void wrong() {
        TwoLevel x = Check.told("kind a 1 0;");
        CHECK.due("note(1, 0, true)", x.note(1, 0, true), -1);
        CHECK.due("note(-1, 0, true)", x.note(-1, 0, true), -1);
        CHECK.due("note(0, 1000, true)", x.note(0, 1000, true), -1);
        CHECK.due("note(0, -1000, true)", x.note(0, -1000, true), -1);
        CHECK.due("see(0, 0, 0, true)", x.see(0, 0, 0, true), -1);
        CHECK.due("see(61, 0, 0, true)", x.see(61, 0, 0, true), -1);
        CHECK.due("see(1, 1, 0, true)", x.see(1, 1, 0, true), -1);
        CHECK.due("see(1, -1, 0, true)", x.see(1, -1, 0, true), -1);
        CHECK.due("see(1, 0, -1, true)", x.see(1, 0, -1, true), -1);
        CHECK.due("see(1, 0, 1000, true)", x.see(1, 0, 1000, true), -1);
        CHECK.due("strike(0) of none", x.strike(0), -1);
        CHECK.due("known(1) of none", x.known(1), false);
        CHECK.due("known(-2)", x.known(-2), false);
        CHECK.due("healings(1)", x.healings(1), -1);
        CHECK.due("healings(-1)", x.healings(-1), -1);
        CHECK.due("note(0, 999, false)", x.note(0, 999, false), 0);
        CHECK.due("note(0, -999, true)", x.note(0, -999, true), 1);
        CHECK.due("see(60, 0, 999, false)", x.see(60, 0, 999, false), 2);
        CHECK.due("see(1, 0, 0, true)", x.see(1, 0, 0, true), 3);
        CHECK.due("strike(4): none such yet", x.strike(4), -1);
        CHECK.due("strike(-1)", x.strike(-1), -1);
        for (int i = 4; i < 24; i++) {
            CHECK.due("strike(0) as " + i, x.strike(0), i);
        }
        CHECK.due("a 25th note", x.note(0, 0, true), -1);
        CHECK.due("a 25th sight", x.see(1, 0, 0, true), -1);
        CHECK.due("a 25th strike", x.strike(0), -1);
        CHECK.due("count(9)", x.count(9), 24);
        CHECK.due("known(24)", x.known(24), true);
        CHECK.due("known(25)", x.known(25), false);
    }

    private static void strikes() {
        TwoLevel x = Check.told("kind a 1 0;");
        x.note(0, 1, true);
        CHECK.due("none has 1", x.who(), 0);
        CHECK.due("strike(0)", x.strike(0), 1);
        CHECK.due("struck", x.who(), 3);
        CHECK.due("strike(1)", x.strike(1), 2);
        CHECK.due("the strike is struck", x.who(), 0);
        CHECK.due("strike(2)", x.strike(2), 3);
        CHECK.due("the strike of the strike is struck", x.who(), 3);
        CHECK.due("strike(0) again", x.strike(0), 4);
        CHECK.due("strike(3)", x.strike(3), 5);
        CHECK.due("still struck by 4", x.who(), 3);
        CHECK.due("strike(4)", x.strike(4), 6);
        CHECK.due("no more", x.who(), 0);
    }

    private static void known() {
        TwoLevel x = Check.told("kind a 1 0;has 0 a 2;");
        x.note(0, 1, true);
        x.note(0, 3, true);
        x.strike(1);
        x.strike(2);
        CHECK.due("all", x.who(), 0);
        CHECK.due("count(10) of all", x.count(10), 4);
        int[] due = {3, 1, 0, 1, 0};
        for (int n = 0; n <= 4; n++) {
            CHECK.due("known(" + n + ")", x.known(n), true);
            CHECK.due("count(10)", x.count(10), n);
            CHECK.due("who() by " + n, x.who(), due[n]);
        }
        x.known(1);
        CHECK.due("known(5)", x.known(5), false);
        CHECK.due("stays by 1", x.count(10), 1);
        x.note(0, 2, false);
        CHECK.due("those to come don't count", x.who(), 1);
        CHECK.due("known(-1)", x.known(-1), true);
        CHECK.due("by all", x.count(10), 5);
        x.strike(3);
        CHECK.due("also those to come", x.count(10), 6);
        CHECK.due("who()", x.who(), 0);
        x.strike(4);
        CHECK.due("who()", x.who(), 1);
    }

    private static void healings() {
        TwoLevel x = Check.told("kind a 1 2;kind b 1 2;has 0 a 20;has 1 a 8;has 0 b 4;");
        CHECK.due("all of none", x.healings(0), 1023);
        // gap behind two days by h: 12 up to 4, then 20 - 2h: 10, 8, 6, 4, 2
        x.see(2, 0, 10, false);
        CHECK.due("less than 10 by 6 and more", x.healings(0), 0b1111000000);
        x.see(2, 0, 4, true);
        CHECK.due("4 at least by 8 and less", x.healings(0), 0b0111000000);
        CHECK.due("of another kind the sights are as heals is: 12", x.healings(1), 0);
        CHECK.due("strike(0)", x.strike(0), 2);
        CHECK.due("struck", x.healings(0), 0b0111111111);
        CHECK.due("of another kind", x.healings(1), 1023);
        x.see(1, 1, 1, false);
        CHECK.due("b by 2 is 2", x.healings(0), 0);
        CHECK.due("b by 4 is 0", x.healings(1), 0b1111110000);
        x.known(2);
        CHECK.due("known by 2", x.healings(0), 0b0111000000);
        x.known(0);
        CHECK.due("known by none", x.healings(0), 1023);
        CHECK.due("a note doesn't tell", x.note(0, 999, true), 4);
        x.known(-1);
        CHECK.due("b by 4 is 0", x.healings(1), 0b1111110000);
    }

    private static void sightsOfTheText() {
        // the deed comes off as it goes, from the text on, whatever was done since
        TwoLevel x = Check.told("kind a 1 0;deed d a 9 1 50;do 0 d 1;purse 0 1;");
        x.go(3);
        x.does(1, 0, true);
        x.give(1, 9);
        x.does(1, 0, true);
        x.see(1, 0, 1, false);
        x.see(2, 0, 9, true);
        CHECK.due("0 behind a day, 9 by 0 behind two", x.healings(0), 1);
        // the law has heals in it: in its place
        x = Check.told("kind a 1 9;has 0 a 30;law heal heals/2;");
        x.see(1, 0, 28, false);
        x.see(1, 0, 27, true);
        CHECK.due("30 - h/2 is 27 by 6 and 7", x.healings(0), 0b0011000000);
        x = Check.told("kind a 1 9;has 0 a 30;law heal 3;");
        x.see(2, 0, 24, true);
        CHECK.due("by law it is all one", x.healings(0), 1023);
        x = Check.told("kind a 1 0;has 0 a 60;");
        x.see(60, 0, 1, false);
        CHECK.due("60 days", x.healings(0), 0b1111111110);
    }
}
