/**
 * The edges of Terms, but letters (FaultsTest) and refusals (RefusalsTest): TOES, FEET, how many
 * BRIDES, GROOMS, YEARS; KINDS, GUESSES, WEDDINGS, a YEAR.
 */
public final class TermsTest {
    private static final Checks checks = new Checks("TermsTest");

    /** "An object is used for at most 512 calls": the 512th is answered as each before it. */
    private static void calls() {
        BrideNotKnown x = Checks.valleyOf("bb000;");
        for (int call = 8; call <= 512; call++) {
            checks.due("call " + call + ", changes(0, 5)", x.changes(0, 5), call % 2 == 0 ? 32 : 0);
        }
    }

    /** "TOES 0 .. 5; a FOOT: bits of TOES". */
    private static void toes() {
        int[] bits = {1, 2, 4, 8, 16, 32};
        BrideNotKnown x = Checks.valleyOf("bb000;bb063;");
        for (int toe = 0; toe <= 5; toe++) {
            checks.due("a TOE put on, " + toe, x.changes(0, toe), bits[toe]);
            checks.due("and off", x.changes(0, toe), 0);
            checks.due("a TOE taken off, " + toe, x.changes(1, toe), 63 - bits[toe]);
            checks.due("and on", x.changes(1, toe), 63);
            BrideNotKnown told = Checks.valleyOf("bb000;bb063;t0" + toe + ";t1" + toe + ";");
            checks.due("told on, " + toe, told.bride(0, 2), bits[toe]);
            checks.due("told off, " + toe, told.bride(1, 2), 63 - bits[toe]);
        }
        BrideNotKnown all = Checks.valleyOf("bb000;t00;t01;t02;t03;t04;t05;");
        checks.due("all TOES on, one by one", all.bride(0, 2), 63);
        checks.due("and off again", Checks.told(all, "t00;t01;t02;t03;t04;t05;"), 6);
        checks.due("none", all.bride(0, 2), 0);
    }

    /** "BRIDES 0 .. as they come (8 at most)", "HERE (at first)". */
    private static void brides() {
        String seven = "bb010;bs111;bf212;bc313;bt414;bm515;bb616;";
        BrideNotKnown x = Checks.valleyOf(seven);
        checks.due("7 are HERE", x.count(3), 127);
        checks.due("there is room for one", Checks.told(x, "bs717;"), 1);
        checks.due("8", x.count(0), 8);
        for (int b = 0; b < 8; b++) {
            checks.due("as they come: KIND of " + b, x.bride(b, 0), b % 6);
            checks.due("as they come: FIGURE of " + b, x.bride(b, 1), b);
            checks.due("as they come: FOOT of " + b, x.bride(b, 2), 10 + b);
            checks.due("HERE at first: " + b, x.bride(b, 5), 0);
            checks.due("not SENT at first: " + b, x.bride(b, 4), 0);
        }
        checks.due("8 are HERE", x.count(3), 255);
        checks.due("there is no room for a ninth", Checks.told(x, "bb000;"), -2000);
        checks.due("still 8", x.count(0), 8);
        BrideNotKnown y = Checks.valleyOf(seven);
        checks.due("room for one is none for two", Checks.told(y, "bb000;bb000;"), -2006);
        checks.due("neither comes", y.count(0), 7);
        checks.due("nor are 9 told at once", Checks.told(new BrideNotKnown(), seven + "bb000;bb000;"), -2048);
        BrideNotKnown none = new BrideNotKnown();
        checks.due("at first there is none", none.count(0), 0);
        checks.due("none is HERE", none.count(3), 0);
    }

    /** MARRIED and SENT home, BRIDES take their room all the same. */
    private static void bridesAway() {
        BrideNotKnown x = Checks.valleyOf("bb000;bb000;bb000;bb000;bb000;bb000;bb000;bb001;g6300;g6301;w0;w1;");
        checks.due("0 is MARRIED, 7 SENT home", x.count(3), 126);
        checks.due("no room for a ninth", Checks.told(x, "bb000;"), -2000);
    }

    /** "GROOMS 0 .. as they come (5 at most)", "UNMARRIED (at first)". */
    private static void grooms() {
        String four = "g0001;g6302;g0163;g3200;";
        int[] looks = {0, 63, 1, 32, 62};
        int[] minds = {1, 2, 63, 0, 31};
        BrideNotKnown x = Checks.valleyOf(four);
        checks.due("there is room for one", Checks.told(x, "g6231;"), 1);
        checks.due("5", x.count(1), 5);
        for (int g = 0; g < 5; g++) {
            checks.due("as they come: LOOKS of " + g, x.groom(g, 0), looks[g]);
            checks.due("as they come: MIND of " + g, x.groom(g, 1), minds[g]);
            checks.due("LIQUOR 0 at first: " + g, x.groom(g, 2), 0);
            checks.due("UNMARRIED at first: " + g, x.groom(g, 3), 0);
            checks.due("without BRIDES no GUESSES: " + g, x.groom(g, 4), 0);
            checks.due("and KNOWS none: " + g, x.groom(g, 5), -9);
        }
        checks.due("there is no room for a sixth", Checks.told(x, "g0000;"), -2000);
        checks.due("still 5", x.count(1), 5);
        BrideNotKnown y = Checks.valleyOf(four);
        checks.due("room for one is none for two", Checks.told(y, "g0000;g0000;"), -2006);
        checks.due("neither comes", y.count(1), 4);
        checks.due("nor are 6 told at once", Checks.told(new BrideNotKnown(), four + "g0000;g0000;"), -2030);
        BrideNotKnown z = Checks.valleyOf("bb000;bb000;g0000;g0000;g0000;g0000;g0000;w0;");
        checks.due("a MARRIED one takes his room", Checks.told(z, "g0000;"), -2000);
    }

    /** "YEAR (0 .. 999; 0 at first)". */
    private static void years() {
        BrideNotKnown x = Checks.valleyOf("bc000;");
        checks.due("YEAR 0 at first", x.count(2), 0);
        for (int i = 1; i <= 16; i++) {
            checks.due("60 YEARS", x.years(60), 1);
            checks.due("YEAR", x.count(2), 60 * i);
        }
        checks.due("38 YEARS", x.years(38), 1);
        checks.due("YEAR 998", x.count(2), 998);
        checks.due("2 are too many", x.years(2), -6);
        checks.due("of them none goes by", x.count(2), 998);
        checks.due("told, too", Checks.told(x, "y02;"), -2000);
        checks.due("and one by one", Checks.told(x, "y01;y01;"), -2004);
        checks.due("still none", x.count(2), 998);
        checks.due("1 goes by", Checks.told(x, "y01;"), 1);
        checks.due("YEAR 999", x.count(2), 999);
        checks.due("she SHOWS as in an odd YEAR", x.bride(0, 3), 1);
        checks.due("no more", x.years(1), -6);
        checks.due("told neither", Checks.told(x, "y01;"), -2000);
        checks.due("YEAR 999 still", x.count(2), 999);
        checks.due("all else goes on", Checks.told(x, "bb001;g6301;"), 2);
    }

    /** "s SISTER: the FOOT of the BRIDE of the next lesser number (0: her own)". */
    private static void sisters() {
        BrideNotKnown x = Checks.valleyOf("bs021;bs042;bs063;bs000;bs011;bs012;bs033;bs044;");
        int[] due = {21, 21, 42, 63, 0, 11, 12, 33};
        for (int b = 0; b < 8; b++) {
            checks.due("SISTER " + b, x.bride(b, 3), due[b]);
        }
        x.changes(0, 0);
        checks.due("0 by her own FOOT, changed", x.bride(0, 3), 20);
        checks.due("1 by the FOOT of 0, changed", x.bride(1, 3), 20);
        checks.due("2 as before", x.bride(2, 3), 42);
        BrideNotKnown f = Checks.valleyOf("bf021;bs000;");
        checks.due("the FOOT, not what is SHOWN", f.bride(1, 3), 21);
        BrideNotKnown m = Checks.valleyOf("bb005;bb009;bs000;g6305;g6300;w0;w1;");
        checks.due("0 is SENT home, 1 MARRIED", m.count(3), 4);
        checks.due("a FOOT of one who is not HERE", m.bride(2, 3), 9);
        m.turn(1, 1, 0);
        checks.due("of one SENT home, by one who is not HERE", m.bride(1, 3), 5);
    }

    /** "f FEIGNER: her FOOT, TOE FIGURE modulo 6 changed". */
    private static void feigners() {
        int[] bits = {1, 2, 4, 8, 16, 32, 1, 2, 4, 8};
        for (int figure = 0; figure <= 9; figure++) {
            BrideNotKnown x = Checks.valleyOf("bf" + figure + "00;bf" + figure + "63;bb" + figure + "21;");
            checks.due("FIGURE " + figure, x.bride(0, 1), figure);
            checks.due("a TOE more by FIGURE " + figure, x.bride(0, 3), bits[figure]);
            checks.due("a TOE less by FIGURE " + figure, x.bride(1, 3), 63 - bits[figure]);
            checks.due("a BRIDE without", x.bride(2, 3), 21);
            checks.due("her FOOT stays", x.bride(0, 2), 0);
            x.turn(2, 2, figure);
            checks.due("turned, FIGURE " + figure, x.bride(2, 3), 21 ^ bits[figure]);
        }
    }

    /** "c CHAPPED: as a FEIGNER in odd YEARS, else as a BRIDE". */
    private static void chapped() {
        BrideNotKnown x = Checks.valleyOf("bc000;bc563;bc600;");
        for (int year = 0; year <= 3; year++) {
            boolean odd = year == 1 || year == 3;
            checks.due("YEAR " + year, x.count(2), year);
            checks.due("FIGURE 0", x.bride(0, 3), odd ? 1 : 0);
            checks.due("FIGURE 5", x.bride(1, 3), odd ? 31 : 63);
            checks.due("FIGURE 6 is TOE 0", x.bride(2, 3), odd ? 1 : 0);
            x.years(1);
        }
        x.years(59);
        checks.due("YEAR 63", x.bride(0, 3), 1);
        x.years(1);
        checks.due("YEAR 64", x.bride(0, 3), 0);
    }

    /** "t TWIN: of a SISTER's and her own FOOT TOES that are in just one". */
    private static void twins() {
        BrideNotKnown x = Checks.valleyOf("bt063;bt000;bt063;bt063;bt021;bt042;bf021;bt021;");
        int[] due = {0, 63, 63, 0, 42, 63, 20, 0};
        for (int b = 0; b < 8; b++) {
            checks.due("TWIN " + b, x.bride(b, 3), due[b]);
        }
        x.changes(0, 3);
        checks.due("0 has no TOE in just one, ever", x.bride(0, 3), 0);
        checks.due("1 by the TOE of 0", x.bride(1, 3), 55);
    }

    /** "m MASKED: as a CHAPPED one, without TOES 0 and 5". */
    private static void masked() {
        BrideNotKnown x = Checks.valleyOf("bm063;bm533;bm433;bm100;bm130;bm600;");
        int[] even = {30, 0, 0, 0, 30, 0};
        int[] odd = {30, 0, 16, 2, 28, 0};
        for (int b = 0; b < 6; b++) {
            checks.due("MASKED " + b + ", even", x.bride(b, 3), even[b]);
        }
        x.years(1);
        for (int b = 0; b < 6; b++) {
            checks.due("MASKED " + b + ", odd", x.bride(b, 3), odd[b]);
        }
    }

    /** "GUESSES: BRIDES HERE who SHOW, in the TOES he LOOKS at, just what is in his MIND there". */
    private static void guesses() {
        String eight = "bb000;bb001;bb032;bb033;bb063;bb031;bb030;bb062;";
        BrideNotKnown x = Checks.valleyOf(eight + "g0000;g6363;g0101;g3200;g3333;");
        int[] due = {255, 16, 2 + 8 + 16 + 32, 1 + 2 + 32 + 64, 8 + 16};
        int[] known = {-9, 4, -9, -9, -9};
        for (int g = 0; g < 5; g++) {
            checks.due("GUESSES of " + g, x.groom(g, 4), due[g]);
            checks.due("whom " + g + " KNOWS", x.groom(g, 5), known[g]);
        }
        x.minds(0, 63);
        checks.due("who LOOKS at nothing GUESSES all, whatever his MIND", x.groom(0, 4), 255);
        x.minds(2, 63);
        checks.due("in TOES he does not LOOK at MIND is nothing", x.groom(2, 4), 2 + 8 + 16 + 32);
        x.looks(2, 63);
        checks.due("in all TOES", x.groom(2, 4), 16);
        x.minds(2, 2);
        checks.due("none is so", x.groom(2, 4), 0);
        checks.due("who GUESSES none KNOWS none", x.groom(2, 5), -9);
        checks.due("4 is SENT home", x.wedding(1), 4);
        checks.due("who is SENT home is not guessed", x.groom(0, 4), 255 - 16);
        checks.due("3 is alone then", x.groom(4, 5), 3);
        checks.due("0 MARRIES 0", x.wedding(0), 100);
        checks.due("who is MARRIED is not guessed", x.groom(3, 4), 2 + 32 + 64);
        checks.due("a MARRIED one GUESSES", x.groom(0, 4), 255 - 16 - 1);
    }

    /** "she is SENT home for 1 YEAR and one more for each 3 LIQUOR (cut), he stays UNMARRIED". */
    private static void sentHome() {
        int[] due = {1, 1, 1, 2, 2, 2, 3, 3, 3, 4};
        for (int liquor = 0; liquor <= 9; liquor++) {
            BrideNotKnown x = Checks.valleyOf("bb000;g0000;l0" + liquor + ";");
            checks.due("the one SENT home, LIQUOR " + liquor, x.wedding(0), 0);
            checks.due("for YEARS, LIQUOR " + liquor, x.bride(0, 4), due[liquor]);
            checks.due("SENT home", x.bride(0, 5), 1);
            checks.due("he is UNMARRIED", x.groom(0, 3), 0);
            for (int year = 1; year < due[liquor]; year++) {
                checks.due("nobody HERE in YEAR " + year, x.years(1), 0);
                checks.due("1 YEAR less", x.bride(0, 4), due[liquor] - year);
                checks.due("still SENT home", x.bride(0, 5), 1);
            }
            checks.due("HERE at 0", x.years(1), 1);
            checks.due("for 0 YEARS", x.bride(0, 4), 0);
            checks.due("HERE", x.bride(0, 5), 0);
            checks.due("HERE from then on", x.years(60), 1);
        }
    }

    /** "he takes of his GUESSES (none: of all HERE) the one at place LIQUOR modulo how many". */
    private static void marries() {
        String eight = "bb000;bb000;bb000;bb000;bb000;bb000;bb000;bb000;";
        int[] ofEight = {0, 1, 2, 3, 4, 5, 6, 7, 0, 1};
        int[] ofThree = {1, 4, 6, 1, 4, 6, 1, 4, 6, 1};
        int[] ofTwo = {2, 7, 2, 7, 2, 7, 2, 7, 2, 7};
        for (int liquor = 0; liquor <= 9; liquor++) {
            BrideNotKnown x = Checks.valleyOf(eight + "g6300;l0" + liquor + ";");
            checks.due("of 8, LIQUOR " + liquor, x.wedding(0), 100 + ofEight[liquor]);
            BrideNotKnown none = Checks.valleyOf(eight + "g6363;l0" + liquor + ";");
            checks.due("of all 8 HERE, LIQUOR " + liquor, none.wedding(0), 100 + ofEight[liquor]);
            BrideNotKnown three = Checks.valleyOf("bb000;bb007;bb000;bb000;bb007;bb000;bb007;bb000;g6307;l0"
                    + liquor + ";");
            checks.due("of 3, LIQUOR " + liquor, three.wedding(0), 100 + ofThree[liquor]);
            BrideNotKnown two = Checks.valleyOf("bb000;bb000;bb007;bb000;bb000;bb000;bb000;bb007;g6307;l0"
                    + liquor + ";");
            checks.due("of 2, LIQUOR " + liquor, two.wedding(0), 100 + ofTwo[liquor]);
            checks.due("she is MARRIED", two.bride(ofTwo[liquor], 5), 2);
            checks.due("he is MARRIED", two.count(4), 1);
            BrideNotKnown last = Checks.valleyOf("bb000;g6301;l0" + liquor + ";");
            checks.due("the only one HERE, not guessed, LIQUOR " + liquor, last.wedding(0), 100);
        }
        BrideNotKnown known = Checks.valleyOf(eight.substring(6) + "bb001;g6301;l09;");
        checks.due("the last of 8, KNOWN and SENT home", known.wedding(0), 7);
        BrideNotKnown fewer = Checks.valleyOf("bb000;bb001;bb002;g6300;g6363;l11;w0;");
        checks.due("all HERE are not all: of 1 and 2 the second", fewer.wedding(1), 102);
    }

    /** "A WEDDING of one who is UNMARRIED, with some BRIDE HERE". */
    private static void weddingsThatCanNotBe() {
        BrideNotKnown x = Checks.valleyOf("bb000;bb001;g6300;g6300;g0000;");
        checks.due("0 is SENT home", x.wedding(0), 0);
        checks.due("1 is not as in his MIND, the last HERE", x.wedding(1), 101);
        checks.due("he is MARRIED", x.wedding(1), -3);
        checks.due("nobody is HERE", x.wedding(2), -3);
        checks.due("nor for 0", x.wedding(0), -3);
        checks.due("a YEAR goes by", x.years(1), 1);
        checks.due("MARRIED he stays", x.wedding(1), -3);
        checks.due("with her HERE it can be", x.wedding(2), 0);
    }

    /** "A YEAR: ... LIQUOR of each GROOM is 1 less (0 at least)". */
    private static void liquorByYears() {
        BrideNotKnown x = Checks.valleyOf("bb000;bb000;g0000;g0000;g0000;l09;l11;w0;");
        checks.due("0 is MARRIED", x.count(4), 1);
        checks.due("all LIQUOR", x.count(5), 10);
        x.years(1);
        checks.due("of a MARRIED one, too", x.groom(0, 2), 8);
        checks.due("to 0", x.groom(1, 2), 0);
        checks.due("0 stays", x.groom(2, 2), 0);
        x.years(1);
        checks.due("1 less", x.groom(0, 2), 7);
        checks.due("0 at least", x.groom(1, 2), 0);
        x.years(6);
        checks.due("1 is left", x.groom(0, 2), 1);
        x.years(1);
        checks.due("none is left", x.groom(0, 2), 0);
        x.years(60);
        checks.due("none at all", x.count(5), 0);
        x.drinks(1, 9);
        checks.due("9", x.groom(1, 2), 9);
        checks.due("8 YEARS told at once", Checks.told(x, "y08;"), 1);
        checks.due("1", x.groom(1, 2), 1);
    }

    public static void main(String[] args) {
        calls();
        toes();
        brides();
        bridesAway();
        grooms();
        years();
        sisters();
        feigners();
        chapped();
        twins();
        masked();
        guesses();
        sentHome();
        marries();
        weddingsThatCanNotBe();
        liquorByYears();
        checks.end();
    }
}
