/** Promises 4 to 12: what brides and grooms are, weddings, changes and years. */
public final class ChangesTest {
    private static final Checks checks = new Checks("ChangesTest");

    private static void promise4() {
        BrideNotKnown x = Checks.valleyOf("bs705;bs706;bf821;bc521;bt012;bm063;bb033;");
        int[] kinds = {1, 1, 2, 3, 4, 5, 0};
        int[] figures = {7, 7, 8, 5, 0, 0, 0};
        int[] feet = {5, 6, 21, 21, 12, 63, 33};
        int[] shows = {5, 5, 17, 21, 25, 30, 33};
        int[] showsOdd = {5, 5, 17, 53, 25, 30, 33};
        for (int b = 0; b < 7; b++) {
            checks.due("kind of " + b, x.bride(b, 0), kinds[b]);
            checks.due("figure of " + b, x.bride(b, 1), figures[b]);
            checks.due("foot of " + b, x.bride(b, 2), feet[b]);
            checks.due("shown by " + b, x.bride(b, 3), shows[b]);
            checks.due("years of " + b, x.bride(b, 4), 0);
            checks.due("place of " + b, x.bride(b, 5), 0);
        }
        x.years(1);
        for (int b = 0; b < 7; b++) {
            checks.due("shown in an odd year by " + b, x.bride(b, 3), showsOdd[b]);
        }
        checks.due("bride(7, 0)", x.bride(7, 0), -1);
        checks.due("bride(-1, 9)", x.bride(-1, 9), -1);
        checks.due("bride(0, 6)", x.bride(0, 6), -2);
        checks.due("bride(0, -1)", x.bride(0, -1), -2);
        BrideNotKnown y = Checks.valleyOf("bt212;bm263;");
        checks.due("a first twin has no toes", y.bride(0, 3), 0);
        checks.due("a masked one, even", y.bride(1, 3), 30);
        y.years(1);
        checks.due("a masked one, odd", y.bride(1, 3), 26);
        BrideNotKnown z = Checks.valleyOf("bf501;bs000;bt004;");
        checks.due("a sister shows a foot, not what is shown", z.bride(1, 3), 1);
        checks.due("a twin by a foot, not what is shown", z.bride(2, 3), 4);
    }

    private static void promise5() {
        BrideNotKnown x = Checks.valleyOf("bb005;bb006;bb007;g0304;g6207;g3506;g0007;l19;");
        checks.due("looks", x.groom(1, 0), 62);
        checks.due("mind", x.groom(1, 1), 7);
        checks.due("liquor", x.groom(1, 2), 9);
        checks.due("unmarried", x.groom(1, 3), 0);
        checks.due("guesses none", x.groom(0, 4), 0);
        checks.due("knows none", x.groom(0, 5), -9);
        checks.due("guesses two", x.groom(1, 4), 6);
        checks.due("knows none of two", x.groom(1, 5), -9);
        checks.due("guesses one", x.groom(2, 4), 2);
        checks.due("knows one", x.groom(2, 5), 1);
        checks.due("who looks at nothing guesses all", x.groom(3, 4), 7);
        checks.due("groom 3 marries", x.wedding(3), 100);
        checks.due("married", x.groom(3, 3), 1);
        checks.due("he guesses those who are here", x.groom(3, 4), 6);
        checks.due("groom 2 sends her home", x.wedding(2), 1);
        checks.due("a married one can know", x.groom(3, 5), 2);
        checks.due("groom(4, 0)", x.groom(4, 0), -1);
        checks.due("groom(-1, 7)", x.groom(-1, 7), -1);
        checks.due("groom(0, 6)", x.groom(0, 6), -2);
        checks.due("groom(0, -1)", x.groom(0, -1), -2);
    }

    private static void promise6() {
        for (int liquor = 0; liquor <= 9; liquor++) {
            BrideNotKnown x = Checks.valleyOf("bb001;bb007;g6307;l0" + liquor + ";");
            checks.due("she is known", x.wedding(0), 1);
            checks.due("years with liquor " + liquor, x.bride(1, 4), 1 + liquor / 3);
            checks.due("sent home", x.bride(1, 5), 1);
            checks.due("he stays unmarried", x.groom(0, 3), 0);
            checks.due("his liquor stays", x.groom(0, 2), liquor);
        }
        int[] guessed = {1, 2, 4, 1, 2, 4, 1, 2, 4, 1};
        int[] all = {0, 1, 2, 3, 4, 0, 1, 2, 3, 4};
        for (int liquor = 0; liquor <= 9; liquor++) {
            String text = "bb001;bb007;bb007;bb002;bb007;g6307;g6363;l0" + liquor + ";l1" + liquor + ";";
            BrideNotKnown x = Checks.valleyOf(text);
            checks.due("of his guesses, liquor " + liquor, x.wedding(0), 100 + guessed[liquor]);
            checks.due("she is married", x.bride(guessed[liquor], 5), 2);
            checks.due("and he", x.groom(0, 3), 1);
            checks.due("once is enough", x.wedding(0), -3);
            BrideNotKnown y = Checks.valleyOf(text);
            checks.due("of all without a guess, liquor " + liquor, y.wedding(1), 100 + all[liquor]);
        }
        BrideNotKnown x = Checks.valleyOf("bb001;g0000;g0000;g6302;");
        checks.due("no groom 3", x.wedding(3), -1);
        checks.due("no groom -1", x.wedding(-1), -1);
        checks.due("none guessed: the only one", x.wedding(2), 100);
        checks.due("nobody is here", x.wedding(0), -3);
        checks.due("states refused", x.count(13), 1);
        checks.due("nothing changed", x.groom(0, 3), 0);
    }

    private static void promises7To10() {
        BrideNotKnown x = Checks.valleyOf("bb005;bb005;g1122;l03;");
        checks.due("a toe less", x.changes(0, 0), 4);
        checks.due("a toe more", x.changes(0, 5), 36);
        checks.due("and back", x.changes(0, 5), 4);
        checks.due("the foot stays so", x.bride(0, 2), 4);
        checks.due("the other's too", x.bride(1, 2), 5);
        checks.due("changes(2, 0)", x.changes(2, 0), -1);
        checks.due("changes(-1, 0)", x.changes(-1, 0), -1);
        checks.due("changes(0, 6)", x.changes(0, 6), -1);
        checks.due("changes(0, -1)", x.changes(0, -1), -1);
        checks.due("looks were", x.looks(0, 63), 11);
        checks.due("looks are", x.looks(0, 0), 63);
        checks.due("looks 0", x.groom(0, 0), 0);
        checks.due("looks(1, -1)", x.looks(1, -1), -1);
        checks.due("looks(-1, 64)", x.looks(-1, 64), -1);
        checks.due("looks(0, -1)", x.looks(0, -1), -4);
        checks.due("looks(0, 64)", x.looks(0, 64), -6);
        checks.due("mind was", x.minds(0, 63), 22);
        checks.due("mind is", x.minds(0, 0), 63);
        checks.due("mind 0", x.groom(0, 1), 0);
        checks.due("minds(1, -1)", x.minds(1, -1), -1);
        checks.due("minds(-1, 64)", x.minds(-1, 64), -1);
        checks.due("minds(0, -1)", x.minds(0, -1), -4);
        checks.due("minds(0, 64)", x.minds(0, 64), -6);
        checks.due("liquor was", x.drinks(0, 9), 3);
        checks.due("liquor is", x.drinks(0, 0), 9);
        checks.due("liquor 0", x.groom(0, 2), 0);
        checks.due("drinks(1, -1)", x.drinks(1, -1), -1);
        checks.due("drinks(-1, 10)", x.drinks(-1, 10), -1);
        checks.due("drinks(0, -1)", x.drinks(0, -1), -4);
        checks.due("drinks(0, 10)", x.drinks(0, 10), -6);
        checks.due("refused: nobody", x.count(11), 10);
        checks.due("refused: below", x.count(14), 3);
        checks.due("refused: room", x.count(16), 3);
    }

    private static void promise11() {
        BrideNotKnown x = Checks.valleyOf("bc707;");
        checks.due("it was c 7", x.turn(0, 2, 9), 37);
        checks.due("kind", x.bride(0, 0), 2);
        checks.due("figure", x.bride(0, 1), 9);
        checks.due("she feigns toe 3", x.bride(0, 3), 15);
        checks.due("it was f 9", x.turn(0, 5, 0), 29);
        checks.due("it was m 0", x.turn(0, 0, 4), 50);
        checks.due("turn(1, 9, 99)", x.turn(1, 9, 99), -1);
        checks.due("turn(-1, 0, 0)", x.turn(-1, 0, 0), -1);
        checks.due("turn(0, 6, -1)", x.turn(0, 6, -1), -2);
        checks.due("turn(0, -1, 10)", x.turn(0, -1, 10), -2);
        checks.due("turn(0, 1, -1)", x.turn(0, 1, -1), -4);
        checks.due("turn(0, 1, 10)", x.turn(0, 1, 10), -6);
        checks.due("nothing changed", x.turn(0, 0, 4), 4);
    }

    private static void promise12() {
        BrideNotKnown x = Checks.valleyOf("bb001;bb002;bb004;bb008;g6301;g6302;g0000;l09;l13;l22;");
        checks.due("0 is sent for 4", x.wedding(0), 0);
        checks.due("1 is sent for 2", x.wedding(1), 1);
        checks.due("2 is married", x.wedding(2), 102);
        checks.due("one year: 3 is here", x.years(1), 1);
        checks.due("of 4", x.bride(0, 4), 3);
        checks.due("of 2", x.bride(1, 4), 1);
        checks.due("liquor 8", x.groom(0, 2), 8);
        checks.due("liquor 2", x.groom(1, 2), 2);
        checks.due("another: 1 and 3", x.years(1), 2);
        checks.due("here 1", x.bride(1, 5), 0);
        checks.due("three more: all but the married one", x.years(3), 3);
        checks.due("liquor 4", x.groom(0, 2), 4);
        checks.due("liquor not under 0", x.groom(1, 2), 0);
        checks.due("she stays married", x.bride(2, 5), 2);
        checks.due("YEAR 5", x.count(2), 5);
        checks.due("years(0)", x.years(0), -4);
        checks.due("years(-1)", x.years(-1), -4);
        checks.due("years(61)", x.years(61), -6);
        checks.due("years(60)", x.years(60), 3);
        for (int i = 0; i < 15; i++) {
            x.years(60);
        }
        checks.due("YEAR 965", x.count(2), 965);
        checks.due("years(35) at 965", x.years(35), -6);
        checks.due("years(34) at 965", x.years(34), 3);
        checks.due("years(1) at 999", x.years(1), -6);
        checks.due("YEAR 999", x.count(2), 999);
    }

    public static void main(String[] args) {
        promise4();
        promise5();
        promise6();
        promises7To10();
        promise11();
        promise12();
        checks.end();
    }
}
