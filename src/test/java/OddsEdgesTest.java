/** The edges of promises 32 to 41: fractions of none and all, a ROW of none and 16, lots, the IMAGE, counts. */
public final class OddsEdgesTest {
    private static final String ALL_ALIKE = "bb000;bb000;bb000;bb000;bb000;bb000;bb000;bb000;";
    private static final String FIVE = "g0000;g0000;g0000;g0000;g0000;";
    private static final Checks checks = new Checks("OddsEdgesTest");

    private static void chance(String what, BrideNotKnown x, int bride, int n, long above, long below) {
        checks.due(what + ": above", x.chance(bride, n, 0), above);
        checks.due(what + ": below", x.chance(bride, n, 1), below);
    }

    /** "the first n (0 .. 4) UNMARRIED GROOMS, by numbers (fewer, if there are fewer)". */
    private static void promise32Grooms() {
        BrideNotKnown none = Checks.valleyOf("bb000;bb000;");
        for (int n = 0; n <= 4; n++) {
            chance("without GROOMS, n " + n, none, 1, n, 0, 1);
        }
        BrideNotKnown two = Checks.valleyOf("bb000;bb000;g0000;g0000;");
        long[] ofTwo = {0, 1, 3, 3, 3};
        long[] byTwo = {1, 2, 4, 4, 4};
        for (int n = 0; n <= 4; n++) {
            chance("of two GROOMS, n " + n, two, 1, n, ofTwo[n], byTwo[n]);
        }
        BrideNotKnown five = Checks.valleyOf("bb000;bb000;" + FIVE);
        long[] ofFive = {0, 1, 3, 7, 15};
        long[] byFive = {1, 2, 4, 8, 16};
        for (int n = 0; n <= 4; n++) {
            chance("of five GROOMS, n " + n, five, 0, n, ofFive[n], byFive[n]);
        }
        BrideNotKnown fifth = Checks.valleyOf("bb000;bb001;g6300;g6300;g6300;g6300;g6301;");
        chance("the fifth alone would take 1", fifth, 1, 4, 0, 1);
        BrideNotKnown fourth = Checks.valleyOf("bb000;bb001;g6300;g6300;g6300;g6301;g6301;");
        chance("the fourth takes 1", fourth, 1, 4, 1, 1);
        chance("three do not", fourth, 1, 3, 0, 1);
        BrideNotKnown married = Checks.valleyOf("bb000;bb000;bb001;g6300;w0;g6301;g6300;");
        chance("the first UNMARRIED one is 1", married, 2, 1, 1, 1);
        chance("2 is not asked", married, 1, 1, 0, 1);
        chance("the second is 2", married, 1, 2, 1, 1);
    }

    /** "take one of their GUESSES (of all HERE, if they have none), each alike likely". */
    private static void promise32Taking() {
        BrideNotKnown eight = Checks.valleyOf(ALL_ALIKE + "g0000;g0000;g6363;g6363;g0000;");
        chance("one of 8", eight, 7, 1, 1, 8);
        chance("two of 8", eight, 7, 2, 15, 64);
        chance("three of 8, one without a GUESS", eight, 7, 3, 169, 512);
        chance("four of 8", eight, 7, 4, 1695, 4096);
        BrideNotKnown one = Checks.valleyOf("bb000;g6300;g6363;");
        chance("the only one, KNOWN", one, 0, 1, 1, 1);
        chance("the only one, twice", one, 0, 2, 1, 1);
        BrideNotKnown least = Checks.valleyOf("bb000;bb000;bb001;bb001;g6300;g6301;g6363;");
        chance("2 of 4 ways are 1 of 2", least, 0, 2, 1, 2);
        chance("10 of 16 ways are 5 of 8", least, 0, 3, 5, 8);
        chance("0 of 2 ways are 0 by 1", least, 2, 1, 0, 1);
        BrideNotKnown sent = Checks.valleyOf("bb000;bb001;bb001;g6300;w0;g0000;");
        chance("one SENT home", sent, 0, 2, 0, 1);
        chance("of all HERE, without her: each 1 of 2", sent, 1, 2, 3, 4);
        BrideNotKnown married = Checks.valleyOf("bb000;bb000;bb000;g0000;w0;g0000;");
        chance("one MARRIED", married, 0, 4, 0, 1);
        chance("the others", married, 1, 4, 1, 2);
        BrideNotKnown away = Checks.valleyOf("bb000;g0000;g0000;w0;");
        chance("nobody is HERE", away, 0, 4, 0, 1);
        away.years(1);
        chance("all as is now: she is HERE", away, 0, 4, 1, 1);
    }

    private static void mean(String text, long above, long below) {
        BrideNotKnown x = Checks.valleyOf(text);
        checks.due("mean of " + text + ": above", x.mean(0), above);
        checks.due("mean of " + text + ": below", x.mean(1), below);
    }

    /** "of TOES in the FEET of BRIDES: a fraction (0 by 1 of none)", "in least terms; 0 as 0 by 1". */
    private static void promise33() {
        mean("", 0, 1);
        mean("g6363;", 0, 1);
        mean("bb000;", 0, 1);
        mean(ALL_ALIKE, 0, 1);
        mean("bb001;", 1, 1);
        mean("bb063;", 6, 1);
        mean(ALL_ALIKE.replace("000", "063"), 6, 1);
        mean("bb032;" + ALL_ALIKE.substring(6), 1, 8);
        mean("bb031;" + ALL_ALIKE.replace("000", "063").substring(6), 47, 8);
        mean("bb003;bb000;bb000;bb000;", 1, 2);
        mean("bb015;bb000;bb000;bb000;bb000;bb000;", 2, 3);
        mean("bf000;bs063;bm033;", 8, 3);
        mean("bb063;bb063;bb000;g0000;w0;g6363;w1;", 4, 1);
    }

    private static void whatIs(String what, BrideNotKnown x, int bride, int kinds, int figures) {
        checks.due(what + ": KINDS", x.whatIs(bride, 0), kinds);
        checks.due(what + ": FIGURES", x.whatIs(bride, 1), figures);
    }

    /** "a ROW tells what a BRIDE SHOWS behind 0, 1, .. YEARS: KINDS .. FIGURES (bits 0 .. 9)". */
    private static void promise34() {
        BrideNotKnown x = Checks.valleyOf("bb000;bf000;bm000;bc000;");
        whatIs("a ROW of none", x, 0, 63, 1023);
        Checks.numbers(x, 0);
        whatIs("0: all but f, any FIGURE", x, 0, 1 + 2 + 8 + 16 + 32, 1023);
        whatIs("0: an f by no FIGURE", x, 1, 1 + 2 + 8 + 16 + 32, 0);
        Checks.numbers(x, 0, 0);
        whatIs("0 0: nor c", x, 0, 1 + 2 + 16 + 32, 1023);
        whatIs("0 0: m by FIGURES 0, 5, 6", x, 2, 1 + 2 + 16 + 32, 1 + 32 + 64);
        Checks.numbers(x, 0, 1);
        whatIs("0 1: c, by no FIGURE of a b", x, 0, 8, 0);
        whatIs("0 1: c by FIGURES 0 and 6", x, 3, 8, 65);
        Checks.numbers(x, 0, 8);
        whatIs("0 8: by FIGURE 0 none; m by 3 and 9", x, 2, 0, 520);
        Checks.numbers(x, 1);
        whatIs("1: f by 0 and 6", x, 1, 4, 65);
        Checks.numbers(x, 32);
        whatIs("32: f by 5", x, 1, 0, 32);
        Checks.numbers(x, 8);
        whatIs("8: f by 3 and 9", x, 1, 0, 520);
        Checks.numbers(x, 3);
        whatIs("3: two TOES, none", x, 1, 0, 0);
        Checks.numbers(x, 64);
        whatIs("64: no FOOT", x, 0, 0, 0);
        Checks.numbers(x, 99);
        whatIs("99: no FOOT", x, 1, 0, 0);
        Checks.numbers(x, 0, 1, 0, 1, 0, 1, 0, 1, 0, 1, 0, 1, 0, 1, 0, 1);
        whatIs("16 numbers", x, 3, 8, 65);
        checks.due("they stay", x.count(6), 16);
        Checks.numbers(x, 0, 1, 0, 1, 0, 1, 0, 1, 0, 1, 0, 1, 0, 1, 0, 0);
        whatIs("the 16th is not so", x, 3, 0, 0);
        Checks.numbers(x, 1, 1, 0, 1, 0, 1, 0, 1, 0, 1, 0, 1, 0, 1, 0, 1);
        whatIs("the first is not so", x, 3, 0, 0);
    }

    /** Behind 0, 1, .. YEARS from now; in thought YEAR may pass 999. */
    private static void promise34Years() {
        BrideNotKnown x = Checks.valleyOf("bc000;y01;");
        Checks.numbers(x, 1, 0);
        whatIs("YEARS 1 and 2", x, 0, 8, 65);
        x.years(1);
        whatIs("YEARS 2 and 3", x, 0, 0, 0);
        for (int i = 0; i < 16; i++) {
            x.years(60);
        }
        x.years(37);
        checks.due("YEAR 999", x.count(2), 999);
        whatIs("YEARS 999 and 1000", x, 0, 8, 65);
        Checks.numbers(x, 1, 0, 1, 0, 1, 0, 1, 0, 1, 0, 1, 0, 1, 0, 1, 0);
        whatIs("YEARS 999 to 1014", x, 0, 8, 65);
        BrideNotKnown away = Checks.valleyOf("bc000;bc000;g0000;g6300;w0;w1;");
        checks.due("nobody is HERE", away.count(3), 0);
        Checks.numbers(away, 0, 1);
        whatIs("of a MARRIED one", away, 0, 8, 65);
        whatIs("of one SENT home", away, 1, 8, 65);
    }

    /** "A ROW of numbers (0 .. 99; 16 at most)". */
    private static void promises35And37() {
        BrideNotKnown x = Checks.valleyOf("bb000;");
        checks.due("none to clear", x.clear(), 0);
        for (int round = 0; round < 2; round++) {
            for (int i = 1; i <= 16; i++) {
                checks.due("number " + i, x.row(i % 2 == 0 ? 0 : 99), i);
                checks.due("in the ROW", x.count(6), i);
            }
            checks.due("no 17th", x.row(0), -6);
            checks.due("8 are TOE 0, not in her FOOT", x.rightly(0), 0);
            checks.due("16 are cleared", x.clear(), 16);
            checks.due("none is left", x.count(6), 0);
            checks.due("none to clear", x.clear(), 0);
        }
        checks.due("a first again", x.row(0), 1);
        checks.due("one is cleared", x.clear(), 1);
        whatIs("the ROW has none", x, 0, 63, 1023);
    }

    private static void judge(String what, BrideNotKnown x, int want, int... row) {
        Checks.numbers(x, row);
        checks.due(what, x.judge(), want);
        checks.due(what + ": the ROW has none then", x.count(6), 0);
    }

    /** "the first that is not so (nobody there, too); -9". */
    private static void promise36() {
        BrideNotKnown none = new BrideNotKnown();
        judge("a ROW of none", none, -9);
        judge("nobody is there", none, 0, 0);
        BrideNotKnown x = Checks.valleyOf(ALL_ALIKE.substring(6) + "bb001;g0000;g6300;g6301;g6363;g0101;");
        judge("a ROW of none, GROOMS", x, -9);
        judge("8, 7, 1, 0, 1", x, -9, 8, 7, 1, 0, 1);
        judge("the first alone", x, -9, 8);
        judge("the first is not so", x, 0, 7, 7, 1, 0, 1);
        judge("nor is the last: the first is told", x, 0, 9, 7, 1, 0, 2);
        judge("the last is not so", x, 4, 8, 7, 1, 0, 0);
        judge("a sixth there is not", x, 5, 8, 7, 1, 0, 1, 0);
        judge("a sixth, the third is not so", x, 2, 8, 7, 0, 0, 1, 0);
        judge("16 numbers", x, 5, 8, 7, 1, 0, 1, 0, 0, 0, 0, 0, 0, 0, 0, 0, 0, 0);
        judge("16 of 99", x, 0, 99, 99, 99, 99, 99, 99, 99, 99, 99, 99, 99, 99, 99, 99, 99, 99);
        x.wedding(1);
        judge("0 is MARRIED, so is he", x, -9, 7, 6, 1, 0, 1);
        x.wedding(2);
        judge("7 is SENT home", x, -9, 6, 6, 0, 0, 0);
    }

    private static void lots(String text, int n, int z, int marry, int sent) {
        BrideNotKnown x = Checks.valleyOf(text);
        checks.due("lots(" + n + ", " + z + ", 0) of " + text, x.lots(n, z, 0), marry);
        checks.due("lots(" + n + ", " + z + ", 1) of " + text, x.lots(n, z, 1), sent);
    }

    /**
     * DRAWS below 64 from seed 0: 51 41, 54 19, 37 6, 44 31, 62 47, 51 25, 37 54, 17 52, 59 50, 9 36;
     * two by two they are apart by 26, 37, 35, 51, 17, 42, 19, 37, 9, 45. The third z and others are
     * below 0. From -1: 13 12, 44 43, apart by 1 and 7.
     */
    private static void promise38() {
        lots("", 20, 0, 0, 0);
        lots(ALL_ALIKE, 20, 0, 0, 0);
        lots(FIVE, 20, 0, 0, 0);
        lots("bb000;g0000;", 1, 0, 0, 1);
        lots("bb000;g0000;", 20, 0, 0, 20);
        lots("bb000;" + FIVE, 20, -7, 0, 20);
        lots(ALL_ALIKE + FIVE, 20, 5, 100, 0);
        lots("bb000;g3700;", 1, 0, 0, 1);
        lots("bb000;g0200;", 1, 0, 1, 0);
        lots("bb000;g2600;", 2, 0, 1, 1);
        lots("bb000;g0400;", 2, 0, 1, 1);
        lots("bb000;g0400;", 3, 0, 1, 2);
        lots("bb000;g0400;", 10, 0, 3, 7);
        lots("bb000;g6300;", 10, 0, 10, 0);
        lots("bb000;g6200;", 1, -1, 0, 1);
        lots("bb000;g6200;", 2, -1, 1, 1);
        lots("bb000;g0100;", 2, -1, 2, 0);
        lots("bb000;g0400;", 10, Integer.MIN_VALUE, 3, 7);
        lots("bb000;g6200;", 2, Integer.MAX_VALUE, 1, 1);
    }

    /** "the FOOT of each BRIDE, by numbers, .. then MIND of each GROOM likewise, then all WEDDINGS". */
    private static void promise38Order() {
        lots("bb000;bb000;g2600;g3100;", 1, 0, 1, 1);
        lots("bb000;bb000;g2600;g3100;", 2, 0, 3, 1);
        lots("bb000;bb000;g0000;w0;g3200;", 1, 0, 1, 0);
        lots("bb000;bb000;g0000;w0;g0500;", 1, 0, 0, 1);
        lots("bb000;g0000;g0000;w0;", 20, 0, 0, 0);
        lots("bb000;g0000;w0;y01;", 20, 0, 0, 20);
        BrideNotKnown x = Checks.valleyOf("bb005;bb006;g2607;g3108;l09;");
        checks.due("lots", x.lots(20, 0, 0) + x.lots(20, 0, 1), 40);
        checks.due("FEET stay", x.bride(0, 2) * 64 + x.bride(1, 2), 5 * 64 + 6);
        checks.due("MINDS stay", x.groom(0, 1) * 64 + x.groom(1, 1), 7 * 64 + 8);
        checks.due("all are HERE", x.count(3), 3);
        checks.due("nobody is MARRIED", x.count(4), 0);
        checks.due("LIQUOR stays", x.count(5), 9);
    }

    /** "all that there is, but it, the ROW, letters, REFUSALS; ON from it all is as then". */
    private static void promises39And40() {
        BrideNotKnown x = new BrideNotKnown();
        checks.due("there is none", x.on(), -3);
        checks.due("an IMAGE of nobody", x.image(), 0);
        checks.due("full", Checks.told(x, ALL_ALIKE + FIVE + "l19;w1;"), 15);
        checks.due("ON", x.on(), 0);
        for (int what = 0; what <= 5; what++) {
            checks.due("nobody: count(" + what + ")", x.count(what), 0);
        }
        checks.due("there is room for as many", Checks.told(x, ALL_ALIKE + FIVE), 13);
        checks.due("all HERE", x.count(3), 255);
        checks.due("none MARRIED", x.count(4), 0);
        checks.due("none has LIQUOR", x.count(5), 0);
        checks.due("it is still there", x.on(), 0);
        checks.due("and nobody", x.count(0), 0);
    }

    /** "IMAGE is taken: YEAR", the last one taken; letters, the ROW and REFUSALS go on. */
    private static void imagesAnew() {
        BrideNotKnown x = Checks.valleyOf("bb000;g0000;w0;");
        for (int i = 0; i < 16; i++) {
            x.years(60);
        }
        checks.due("she is HERE", x.bride(0, 5), 0);
        checks.due("of YEAR 960", x.image(), 960);
        checks.due("SENT home", x.wedding(0), 0);
        checks.due("another, of YEAR 960", x.image(), 960);
        x.years(39);
        checks.due("YEAR 999", x.count(2), 999);
        Checks.letters(x, "y3");
        x.row(1);
        checks.due("1000", x.years(1), -6);
        checks.due("ON", x.on(), 960);
        checks.due("SENT home, as in the second", x.bride(0, 4), 1);
        checks.due("letters go on", Checks.told(x, "9;"), 1);
        checks.due("999 anew", x.count(2), 999);
        checks.due("the ROW goes on", x.row(2), 2);
        checks.due("REFUSALS go on", x.count(16), 1);
        checks.due("of YEAR 999", x.image(), 999);
        checks.due("ON", x.on(), 999);
        checks.due("from YEAR 999 no YEAR", x.years(1), -6);
        checks.due("REFUSALS", x.count(16), 2);
        checks.due("ON", x.on(), 999);
        checks.due("REFUSALS stay", x.count(16), 2);
    }

    /** Each number of count() at its least and its greatest. */
    private static void promise41() {
        int[] least = {0, 0, 0, 0, 0, 0, 0, 0};
        BrideNotKnown none = new BrideNotKnown();
        counts("least", none, least);
        BrideNotKnown full = Checks.valleyOf(ALL_ALIKE + FIVE);
        for (int i = 0; i < 16; i++) {
            full.years(60);
        }
        full.years(39);
        for (int g = 0; g < 5; g++) {
            full.drinks(g, 9);
        }
        Checks.numbers(full, 0, 1, 2, 3, 4, 5, 6, 7, 8, 9, 10, 11, 12, 13, 14, 15);
        for (int i = 0; i < 96; i++) {
            full.letter(255);
        }
        counts("greatest", full, new int[] {8, 5, 999, 255, 0, 45, 16, 96});
        for (int g = 0; g < 5; g++) {
            full.wedding(g);
        }
        checks.due("of 8, 7, 6, 5, 4 by LIQUOR 9: 1, 3, 5, 7, 2 are MARRIED", full.count(3), 1 + 16 + 64);
        checks.due("all GROOMS are MARRIED", full.count(4), 31);
        checks.due("LIQUOR is theirs", full.count(5), 45);
        int[] others = {Integer.MIN_VALUE, -16, -11, -1, 8, 9, 10, 17, 18, 27, Integer.MAX_VALUE};
        for (int what : others) {
            checks.due("count(" + what + ")", full.count(what), -9);
        }
        for (int what = 11; what <= 16; what++) {
            checks.due("nothing was refused: count(" + what + ")", full.count(what), 0);
        }
    }

    private static void counts(String what, BrideNotKnown x, int[] due) {
        for (int i = 0; i < 8; i++) {
            checks.due(what + ": count(" + i + ")", x.count(i), due[i]);
        }
    }

    /** Each of 300 calls is refused, and counted. */
    private static void manyRefusals() {
        BrideNotKnown x = new BrideNotKnown();
        for (int i = 1; i <= 300; i++) {
            x.known(2);
        }
        checks.due("300 refused", x.count(12), 300);
        checks.due("-5 there is none", x.count(15), 0);
    }

    public static void main(String[] args) {
        promise32Grooms();
        promise32Taking();
        promise33();
        promise34();
        promise34Years();
        promises35And37();
        promise36();
        promise38();
        promise38Order();
        promises39And40();
        imagesAnew();
        promise41();
        manyRefusals();
        checks.end();
    }
}
