/** The edges of promises 13 to 24: in 0 and in 60 YEARS, nobody and all, ties, the first and -9. */
public final class KnownEdgesTest {
    private static final String FEET_0_TO_7 = "bb000;bb001;bb002;bb003;bb004;bb005;bb006;bb007;";
    private static final String ALL_ALIKE = "bb000;bb000;bb000;bb000;bb000;bb000;bb000;bb000;";
    private static final Checks checks = new Checks("KnownEdgesTest");

    /** An object in YEAR 999, of this VALLEY. */
    private static BrideNotKnown in999(String text) {
        BrideNotKnown x = Checks.valleyOf(text);
        for (int i = 0; i < 16; i++) {
            x.years(60);
        }
        x.years(39);
        checks.due("YEAR", x.count(2), 999);
        return x;
    }

    /** "In mind, n YEARS on (0 .. 60)", "(In thought YEAR may pass 999.)". */
    private static void promise13() {
        BrideNotKnown x = Checks.valleyOf("bs021;bf021;bc021;bt042;bm163;bb063;");
        int[] even = {21, 20, 21, 63, 30, 63};
        int[] odd = {21, 20, 20, 63, 28, 63};
        BrideNotKnown late = in999("bs021;bf021;bc021;bt042;bm163;bb063;");
        for (int b = 0; b < 6; b++) {
            checks.due("in 0, " + b, x.showsThen(b, 0), even[b]);
            checks.due("in 1, " + b, x.showsThen(b, 1), odd[b]);
            checks.due("in 59, " + b, x.showsThen(b, 59), odd[b]);
            checks.due("in 60, " + b, x.showsThen(b, 60), even[b]);
            checks.due("in YEAR 999, " + b, late.showsThen(b, 0), odd[b]);
            checks.due("in YEAR 1000, " + b, late.showsThen(b, 1), even[b]);
            checks.due("in YEAR 1058, " + b, late.showsThen(b, 59), even[b]);
            checks.due("in YEAR 1059, " + b, late.showsThen(b, 60), odd[b]);
        }
        checks.due("the YEAR stays", late.count(2), 999);
        BrideNotKnown away = Checks.valleyOf("bc000;bc000;g0101;w0;g6300;");
        checks.due("0 is MARRIED", away.bride(0, 5), 2);
        checks.due("1 is SENT home", away.wedding(1), 1);
        checks.due("a MARRIED one SHOWS", away.showsThen(0, 1), 1);
        checks.due("one SENT home SHOWS", away.showsThen(1, 0), 0);
    }

    private static void promise14() {
        int[] liquors = {0, 3, 6, 9};
        for (int years = 1; years <= 4; years++) {
            BrideNotKnown x = Checks.valleyOf("bb000;g0000;g6363;l0" + liquors[years - 1] + ";w0;");
            checks.due("SENT home for " + years, x.bride(0, 4), years);
            checks.due("not HERE a YEAR ahead", x.groomThen(0, years - 1, 0), 0);
            checks.due("nor KNOWN", x.groomThen(0, years - 1, 1), -9);
            checks.due("HERE in " + years, x.groomThen(0, years, 0), 1);
            checks.due("KNOWN in " + years, x.groomThen(0, years, 1), 0);
            checks.due("HERE in 60", x.groomThen(0, 60, 0), 1);
            checks.due("HERE, but not as in his MIND", x.groomThen(1, 60, 0), 0);
        }
        BrideNotKnown late = in999("bc000;bb001;g6300;");
        checks.due("in YEAR 999 none", late.groomThen(0, 0, 0), 0);
        checks.due("in YEAR 1000", late.groomThen(0, 1, 0), 1);
        checks.due("whom he KNOWS then", late.groomThen(0, 1, 1), 0);
        checks.due("in YEAR 1059 none", late.groomThen(0, 60, 1), -9);
        BrideNotKnown all = Checks.valleyOf(ALL_ALIKE + "g0000;");
        checks.due("all 8", all.groomThen(0, 60, 0), 255);
        checks.due("of 8 none is KNOWN", all.groomThen(0, 60, 1), -9);
        checks.due("0 is MARRIED", all.wedding(0), 100);
        checks.due("in 60 YEARS, too", all.groomThen(0, 60, 0), 254);
        BrideNotKnown none = Checks.valleyOf("g0000;");
        checks.due("without BRIDES none", none.groomThen(0, 0, 0), 0);
        checks.due("nor in 60", none.groomThen(0, 60, 1), -9);
    }

    /** "KNOWN: BRIDES whom some UNMARRIED GROOM KNOWS now; SAFE: BRIDES HERE whom none does". */
    private static void promise15() {
        BrideNotKnown none = new BrideNotKnown();
        checks.due("nobody is KNOWN", none.known(0), 0);
        checks.due("nobody is SAFE", none.known(1), 0);
        BrideNotKnown brides = Checks.valleyOf(FEET_0_TO_7);
        checks.due("without GROOMS none KNOWN", brides.known(0), 0);
        checks.due("all 8 SAFE", brides.known(1), 255);
        BrideNotKnown five = Checks.valleyOf(FEET_0_TO_7 + "g6307;g6306;g6305;g6304;g6303;");
        checks.due("5 KNOWN", five.known(0), 248);
        checks.due("3 SAFE", five.known(1), 7);
        BrideNotKnown one = Checks.valleyOf(FEET_0_TO_7 + "g6300;g0700;g6300;g6300;g6300;");
        checks.due("one KNOWN by 5", one.known(0), 1);
        checks.due("7 SAFE", one.known(1), 254);
        BrideNotKnown all = Checks.valleyOf("bb000;bb001;g0100;g0101;");
        checks.due("all KNOWN", all.known(0), 3);
        checks.due("none SAFE", all.known(1), 0);
        checks.due("0 is SENT home", all.wedding(0), 0);
        checks.due("who is SENT home is not KNOWN", all.known(0), 2);
        checks.due("nor SAFE", all.known(1), 0);
        BrideNotKnown married = Checks.valleyOf("bb000;bb000;g6300;w0;");
        checks.due("he KNOWS the other", married.groom(0, 5), 1);
        checks.due("but is MARRIED", married.known(0), 0);
        checks.due("so she is SAFE, the MARRIED one not", married.known(1), 2);
    }

    /** "behind how many YEARS (0 .. 60) a GROOM KNOWS one first; -9". */
    private static void promise16() {
        BrideNotKnown x = Checks.valleyOf("bc001;g6301;l09;g6300;");
        checks.due("at once", x.when(0), 0);
        checks.due("in an odd YEAR", x.when(1), 1);
        checks.due("0 is SENT home", x.wedding(0), 0);
        checks.due("for 4 YEARS", x.when(0), 4);
        checks.due("4 and one that is odd", x.when(1), 5);
        x.years(3);
        checks.due("YEAR 3: 1 more", x.when(0), 1);
        checks.due("and 2", x.when(1), 2);
        BrideNotKnown never = Checks.valleyOf("bb001;bb001;g6301;g6300;g0000;");
        checks.due("two, ever", never.when(0), -9);
        checks.due("none, ever", never.when(1), -9);
        checks.due("0 MARRIES 0", never.wedding(0), 100);
        checks.due("a MARRIED one KNOWS the other", never.when(0), 0);
        checks.due("as 2 does", never.when(2), 0);
        checks.due("2 SENDS her home", never.wedding(2), 1);
        checks.due("in 1 both KNOW her", never.when(0), 1);
        checks.due("without BRIDES", Checks.valleyOf("g0000;").when(0), -9);
        BrideNotKnown late = in999("bc001;g6301;g6300;");
        checks.due("first in YEAR 1000", late.when(0), 1);
        checks.due("in YEAR 999", late.when(1), 0);
        BrideNotKnown first = Checks.valleyOf("bb000;bb000;g6300;g0163;l19;w1;");
        checks.due("one alone is HERE: at once, not later", first.when(0), 0);
    }

    /** "whom a GROOM would take, were his WEDDING now; -9 he KNOWS one, or it can not be". */
    private static void promise17() {
        int[] ofEight = {0, 1, 2, 3, 4, 5, 6, 7, 0, 1};
        for (int liquor = 0; liquor <= 9; liquor++) {
            BrideNotKnown x = Checks.valleyOf(ALL_ALIKE + "g6300;g6363;l0" + liquor + ";l1" + liquor + ";");
            checks.due("of 8 GUESSES, LIQUOR " + liquor, x.takes(0), ofEight[liquor]);
            checks.due("of 8 HERE, LIQUOR " + liquor, x.takes(1), ofEight[liquor]);
        }
        BrideNotKnown x = Checks.valleyOf("bb000;bb001;g6300;g6302;g0000;");
        checks.due("he KNOWS one", x.takes(0), -9);
        checks.due("none guessed: of all HERE", x.takes(1), 0);
        checks.due("of two", x.takes(2), 0);
        x.wedding(0);
        checks.due("0 is SENT home: the last HERE", x.takes(1), 1);
        checks.due("but whom he KNOWS not", x.takes(2), -9);
        checks.due("0 takes the last HERE, too", x.takes(0), 1);
        checks.due("1 does", x.wedding(1), 101);
        checks.due("he is MARRIED", x.takes(1), -9);
        checks.due("nobody is HERE", x.takes(0), -9);
        checks.due("without BRIDES", Checks.valleyOf("g0000;").takes(0), -9);
    }

    /** "the fewest TOES (bits, of several the least) .. so that no UNMARRIED GROOM KNOWS her now; -9". */
    private static void promise18() {
        checks.due("without GROOMS no TOE", Checks.valleyOf("bb000;").hide(0), 0);
        checks.due("of one TOE the least: 2, not 4", Checks.valleyOf("bb000;g2000;").hide(0), 4);
        checks.due("TOE 5", Checks.valleyOf("bb000;g3200;").hide(0), 32);
        checks.due("any TOE: the least", Checks.valleyOf("bb063;g6363;").hide(0), 1);
        BrideNotKnown fewer = Checks.valleyOf("bb000;g3500;g6301;g6302;");
        checks.due("TOE 5 alone, though 0 and 1 are a lesser number", fewer.hide(0), 32);
        checks.due("two TOES", Checks.valleyOf("bb000;g0100;g0200;").hide(0), 3);
        checks.due("five TOES", Checks.valleyOf("bb000;g0100;g0200;g0400;g0800;g1600;").hide(0), 31);
        checks.due("the last five", Checks.valleyOf("bb063;g0202;g0404;g0808;g1616;g3232;").hide(0), 62);
        checks.due("who LOOKS at nothing KNOWS the only one", Checks.valleyOf("bb000;g0000;").hide(0), -9);
        checks.due("both ways", Checks.valleyOf("bb000;g0100;g0101;").hide(0), -9);
        checks.due("with another like her none", Checks.valleyOf("bb000;bb000;g0000;").hide(1), 0);
        BrideNotKnown sister = Checks.valleyOf("bb000;g6300;w0;bs001;");
        checks.due("by her sister's FOOT, whatever her own", sister.groom(0, 5), 1);
        checks.due("no TOE of hers hides her", sister.hide(1), -9);
        BrideNotKnown married = Checks.valleyOf("bb000;bb000;g0000;w0;");
        checks.due("KNOWN by a MARRIED one alone", married.groom(0, 5), 1);
        checks.due("no TOE", married.hide(1), 0);
        BrideNotKnown eight = Checks.valleyOf(FEET_0_TO_7 + "g6307;");
        checks.due("the eighth", eight.hide(7), 1);
        checks.due("the first is SAFE", eight.hide(0), 0);
        BrideNotKnown now = Checks.valleyOf("bc000;g6300;");
        checks.due("now, not in an odd YEAR", now.hide(0), 1);
        now.years(1);
        checks.due("in an odd YEAR he KNOWS her not", now.hide(0), 0);
    }

    /** "the fewest TOES of those he LOOKS at that a GROOM must not look at so that he KNOWS none now; -9". */
    private static void promise19() {
        checks.due("who KNOWS none", Checks.valleyOf("bb000;bb000;g6300;").forget(0), 0);
        checks.due("without BRIDES", Checks.valleyOf("g6300;").forget(0), 0);
        checks.due("all six TOES", Checks.valleyOf("bb000;bb063;g6300;").forget(0), 63);
        checks.due("all he LOOKS at", Checks.valleyOf("bb000;bb063;g2163;").forget(0), 21);
        checks.due("of one TOE the least", Checks.valleyOf("bb000;bb032;bb016;g6300;").forget(0), 16);
        checks.due("TOE 5 alone, though 0 and 1 are a lesser number",
                Checks.valleyOf("bb000;bb032;bb003;g6300;").forget(0), 32);
        checks.due("of two TOES the least", Checks.valleyOf("bb000;bb048;bb033;bb018;g6300;").forget(0), 18);
        checks.due("the only one HERE", Checks.valleyOf("bb000;g6300;").forget(0), -9);
        checks.due("the only one, LOOKS 0", Checks.valleyOf("bb000;g0000;").forget(0), -9);
        checks.due("the only one, not as in his MIND", Checks.valleyOf("bb001;g0100;").forget(0), 0);
        BrideNotKnown x = Checks.valleyOf("bb000;bb001;g6300;");
        checks.due("TOE 0", x.forget(0), 1);
        checks.due("she is SENT home", x.wedding(0), 0);
        checks.due("now he KNOWS none", x.forget(0), 0);
        x.minds(0, 1);
        checks.due("now he KNOWS the only one HERE", x.forget(0), -9);
        BrideNotKnown y = Checks.valleyOf("bb000;bb000;bb001;g6300;w0;g6300;");
        checks.due("the other UNMARRIED one", y.forget(1), 1);
    }

    private static String two(int n) {
        return "" + n / 10 + n % 10;
    }

    /** "the fewest TOES .. of several the least": each set of TOES may be the answer, and of each two the better is. */
    private static void anySetOfToes() {
        for (int a = 1; a <= 63; a++) {
            BrideNotKnown all = Checks.valleyOf("bb000;bb063;g" + two(a) + "00;");
            checks.due("all TOES that he LOOKS at", all.forget(0), a);
            for (int b = 1; b <= 63; b++) {
                BrideNotKnown x = Checks.valleyOf("bb000;bb0" + two(a) + ";bb0" + two(b) + ";g6300;");
                int more = Integer.bitCount(a) - Integer.bitCount(b);
                checks.due("TOES " + a + " or " + b, x.forget(0), more < 0 || more == 0 && a < b ? a : b);
            }
        }
        for (int a = 1; a <= 62; a++) {
            StringBuilder grooms = new StringBuilder();
            StringBuilder others = new StringBuilder();
            for (int toe = 0; toe <= 5; toe++) {
                if ((a >> toe & 1) == 1) {
                    grooms.append("g").append(two(1 << toe)).append("00;");
                    others.append("g").append(two(1 << toe)).append(two(1 << toe)).append(";");
                }
            }
            checks.due("TOES that GROOMS LOOK at", Checks.valleyOf("bb000;" + grooms).hide(0), a);
            checks.due("the same of all TOES", Checks.valleyOf("bb063;" + others).hide(0), a);
        }
    }

    /** "the least LIQUOR (0 .. 9) with which he would take a told BRIDE; -9". */
    private static void promise20() {
        BrideNotKnown x = Checks.valleyOf(ALL_ALIKE + "g6300;g6363;l09;l15;");
        for (int b = 0; b < 8; b++) {
            checks.due("of 8 GUESSES, " + b, x.drink(0, b), b);
            checks.due("of 8 HERE, " + b, x.drink(1, b), b);
        }
        BrideNotKnown y = Checks.valleyOf("bb001;bb000;bb001;g6301;g6300;");
        checks.due("the first guessed", y.drink(0, 0), 0);
        checks.due("the second guessed", y.drink(0, 2), 1);
        checks.due("who is not guessed", y.drink(0, 1), -9);
        checks.due("whom he KNOWS", y.drink(1, 1), -9);
        checks.due("who KNOWS one takes no other", y.drink(1, 0), -9);
        checks.due("1 is SENT home", y.wedding(1), 1);
        checks.due("none guessed: the last HERE", y.drink(1, 2), 1);
        checks.due("who is SENT home", y.drink(1, 1), -9);
        checks.due("0 MARRIES 0", y.wedding(0), 100);
        checks.due("he is MARRIED", y.drink(0, 2), -9);
        checks.due("who is MARRIED", y.drink(1, 0), -9);
        checks.due("the only one HERE, not guessed", y.drink(1, 2), 0);
    }

    /** "the BRIDE HERE who, SENT home now, makes fewest KNOWN (others), fewer than else, of several the least; -9". */
    private static void promise21() {
        checks.due("nobody", new BrideNotKnown().away(), -9);
        checks.due("nobody is KNOWN", Checks.valleyOf("bb000;bb000;g6300;").away(), -9);
        checks.due("the only one", Checks.valleyOf("bb000;g6300;").away(), 0);
        checks.due("who is KNOWN, not who makes another KNOWN",
                Checks.valleyOf("bb000;bb000;bb001;g6300;g6301;").away(), 2);
        checks.due("the last of 8", Checks.valleyOf(ALL_ALIKE.substring(6) + "bb001;g6301;").away(), 7);
        checks.due("each as well: the least", Checks.valleyOf("bb003;bb000;bb001;g6300;g6301;").away(), 1);
        checks.due("as many as before is not fewer",
                Checks.valleyOf("bb000;bb001;g0101;g0000;").away(), -9);
        BrideNotKnown fewest = Checks.valleyOf("bb000;bb001;bb003;g6300;g6301;g6303;g0100;g0202;");
        checks.due("0, 1 and 2 are KNOWN", fewest.known(0), 7);
        checks.due("each leaves two, the least", fewest.away(), 0);
        BrideNotKnown gone = Checks.valleyOf("bb000;bb001;g6300;g6301;w0;");
        checks.due("who is SENT home is not SENT home", gone.away(), 1);
        BrideNotKnown married = Checks.valleyOf("bb000;bb000;g6300;w0;");
        checks.due("whom a MARRIED one KNOWS is not KNOWN", married.away(), -9);
        BrideNotKnown away = Checks.valleyOf("bb000;g6300;w0;");
        checks.due("nobody is HERE", away.away(), -9);
        BrideNotKnown all = Checks.valleyOf("bb000;bb001;bb002;g6300;g0100;");
        checks.due("0 is KNOWN", all.known(0), 1);
        checks.due("without her 2, without 2 she: none leaves fewer", all.away(), -9);
    }

    /** "the most BRIDES HERE and UNMARRIED GROOMS, two by two, of whom no GROOM KNOWS his". */
    private static void promise22() {
        BrideNotKnown most = Checks.valleyOf(ALL_ALIKE + "g6300;g6300;g6300;g6300;g6300;");
        checks.due("5", most.pairs(-1), 5);
        for (int g = 0; g < 5; g++) {
            checks.due("the least BRIDE left for " + g, most.pairs(g), g);
        }
        checks.due("nobody", new BrideNotKnown().pairs(-1), 0);
        checks.due("BRIDES alone", Checks.valleyOf(ALL_ALIKE).pairs(-1), 0);
        BrideNotKnown grooms = Checks.valleyOf("g0000;g0000;");
        checks.due("GROOMS alone", grooms.pairs(-1), 0);
        checks.due("he has nobody", grooms.pairs(1), -9);
        BrideNotKnown knows = Checks.valleyOf("bb000;g0000;g6300;");
        checks.due("both KNOW her", knows.pairs(-1), 0);
        checks.due("nobody for 0", knows.pairs(0), -9);
        checks.due("nobody for 1", knows.pairs(1), -9);
        BrideNotKnown yields = Checks.valleyOf("bb000;bb001;g6302;g0101;");
        checks.due("two, if 0 leaves 0 to 1", yields.pairs(-1), 2);
        checks.due("0 has 1", yields.pairs(0), 1);
        checks.due("1 has 0", yields.pairs(1), 0);
        BrideNotKnown last = Checks.valleyOf("bb000;g6301;g6301;g6301;");
        checks.due("one", last.pairs(-1), 1);
        checks.due("0 has her", last.pairs(0), 0);
        checks.due("nobody is last", last.pairs(1), -9);
        checks.due("nobody is last, 2", last.pairs(2), -9);
        BrideNotKnown middle = Checks.valleyOf("bb000;bb001;g6300;g6300;g6301;");
        checks.due("two of three", middle.pairs(-1), 2);
        checks.due("0 KNOWS 0", middle.pairs(0), 1);
        checks.due("so does 1", middle.pairs(1), -9);
        checks.due("2 KNOWS 1", middle.pairs(2), 0);
        BrideNotKnown eight = Checks.valleyOf(ALL_ALIKE.substring(6) + "bb001;g0101;g0101;g0101;g0101;g0101;w0;");
        checks.due("7 is SENT home, none KNOWS one", eight.pairs(-1), 5);
        checks.due("0 has 0", eight.pairs(0), 0);
        BrideNotKnown few = Checks.valleyOf(ALL_ALIKE + "g0000;g0000;g0000;w0;w2;");
        checks.due("6 BRIDES HERE, one UNMARRIED GROOM", few.pairs(-1), 1);
        checks.due("0 is MARRIED", few.pairs(0), -9);
        checks.due("1 has the least BRIDE HERE: 0 and 1 are MARRIED", few.pairs(1), 2);
        checks.due("2 is MARRIED", few.pairs(2), -9);
        BrideNotKnown gone = Checks.valleyOf("bb000;bb001;bb002;g0000;g6301;w0;w1;");
        checks.due("0 is MARRIED, 1 SENT home", gone.count(3), 4);
        checks.due("one is left", gone.pairs(-1), 1);
        checks.due("a MARRIED one has nobody", gone.pairs(0), -9);
        checks.due("the last HERE", gone.pairs(1), 2);
    }

    /** "the BRIDE (of all) whose own FOOT is nearest .. of several the least; -9; how many TOES". */
    private static void promise23() {
        int[] feet = {0, 1, 3, 7, 15, 31, 63};
        String[] two = {"00", "01", "03", "07", "15", "31", "63"};
        for (int toes = 0; toes <= 6; toes++) {
            BrideNotKnown x = Checks.valleyOf("bb000;g00" + two[toes] + ";");
            checks.due("the only one, MIND " + feet[toes], x.meant(0, 0), 0);
            checks.due("TOES otherwise", x.meant(0, 1), toes);
        }
        BrideNotKnown x = Checks.valleyOf("bb063;bb007;bb007;bb003;bf200;g6303;g0103;g6300;g6315;");
        checks.due("the nearest", x.meant(0, 0), 3);
        checks.due("in all TOES, not those he LOOKS at", x.meant(1, 0), 3);
        checks.due("her own FOOT, not what she SHOWS", x.meant(2, 0), 4);
        checks.due("no TOE otherwise", x.meant(2, 1), 0);
        checks.due("of 1 and 2 the least", x.meant(3, 0), 1);
        checks.due("one TOE", x.meant(3, 1), 1);
        BrideNotKnown none = Checks.valleyOf("g0000;");
        checks.due("of none", none.meant(0, 0), -9);
        checks.due("TOES of none", none.meant(0, 1), -9);
        BrideNotKnown sent = Checks.valleyOf("bb000;bb063;g6300;w0;");
        checks.due("0 is SENT home", sent.bride(0, 5), 1);
        checks.due("and MEANT", sent.meant(0, 0), 0);
        BrideNotKnown married = Checks.valleyOf("bb000;bb000;bb063;g6300;w0;");
        checks.due("0 is MARRIED", married.bride(0, 5), 2);
        checks.due("and MEANT", married.meant(0, 0), 0);
        BrideNotKnown last = Checks.valleyOf(ALL_ALIKE.substring(6) + "bb063;g0063;");
        checks.due("the last of 8", last.meant(0, 0), 7);
    }

    /** "GROOMS (bits) who KNOW just the one MEANT for them". */
    private static void promise24() {
        checks.due("nobody", new BrideNotKnown().loses(), 0);
        checks.due("BRIDES alone", Checks.valleyOf("bb000;").loses(), 0);
        checks.due("GROOMS alone", Checks.valleyOf("g0000;").loses(), 0);
        checks.due("all 5", Checks.valleyOf(FEET_0_TO_7 + "g6300;g6301;g6302;g6303;g6304;").loses(), 31);
        checks.due("the fifth", Checks.valleyOf(FEET_0_TO_7 + "g0000;g0000;g0000;g0000;g6307;").loses(), 16);
        checks.due("none KNOWS one", Checks.valleyOf(ALL_ALIKE + "g6300;").loses(), 0);
        checks.due("who KNOWS another than is MEANT", Checks.valleyOf("bf000;bb001;g6300;").loses(), 0);
        BrideNotKnown far = Checks.valleyOf("bb000;g0063;");
        checks.due("MEANT as the only one, KNOWN as the only one", far.loses(), 1);
        checks.due("she is SENT home", far.wedding(0), 0);
        checks.due("MEANT, but not KNOWN", far.loses(), 0);
        BrideNotKnown married = Checks.valleyOf("bb001;bb000;g0001;g6300;w0;");
        checks.due("a MARRIED one KNOWS 1, 0 is MEANT", married.loses(), 2);
        married.minds(0, 0);
        checks.due("1 is MEANT for a MARRIED one", married.loses(), 3);
    }

    public static void main(String[] args) {
        promise13();
        promise14();
        promise15();
        promise16();
        promise17();
        promise18();
        promise19();
        anySetOfToes();
        promise20();
        promise21();
        promise22();
        promise23();
        promise24();
        checks.end();
    }
}
