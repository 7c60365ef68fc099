/** The edges of promises 25 to 31: nobody and all 8, ties, the first, and -9. */
public final class LikenessEdgesTest {
    private static final String ALL_ALIKE = "bb000;bb000;bb000;bb000;bb000;bb000;bb000;bb000;";
    private static final String FEET_0_TO_7 = "bb000;bb001;bb002;bb003;bb004;bb005;bb006;bb007;";
    private static final Checks checks = new Checks("LikenessEdgesTest");

    /** "how many twos", "the first (10 the lesser and the other)", "how many at most", "what they SHOW". */
    private static void alike(String what, BrideNotKnown x, int... due) {
        for (int i = 0; i < 4; i++) {
            checks.due(what + ": alike(" + i + ")", x.alike(i), due[i]);
        }
    }

    private static void promise25() {
        alike("nobody", new BrideNotKnown(), 0, -9, 0, -9);
        alike("one", Checks.valleyOf("bb000;"), 0, -9, 1, 0);
        alike("one of 63", Checks.valleyOf("bb063;"), 0, -9, 1, 63);
        alike("all 8", Checks.valleyOf(ALL_ALIKE), 28, 1, 8, 0);
        alike("all 8 SISTERS of 63", Checks.valleyOf(ALL_ALIKE.replace("bb000;", "bs063;")), 28, 1, 8, 63);
        alike("none of 8", Checks.valleyOf(FEET_0_TO_7), 0, -9, 1, 0);
        alike("the last two", Checks.valleyOf("bb000;bb001;bb002;bb003;bb004;bb005;bb006;bb006;"), 1, 67, 2, 6);
        alike("the first and the last", Checks.valleyOf("bb007;bb001;bb001;bb003;bb004;bb005;bb006;bb007;"),
                2, 7, 2, 1);
        alike("as many: what is the least", Checks.valleyOf("bb063;bb062;bb063;bb062;"), 2, 2, 2, 62);
        alike("more: though it is greater", Checks.valleyOf("bb000;bb000;bb063;bb063;bb063;"), 4, 1, 3, 63);
        alike("in what they SHOW", Checks.valleyOf("bf000;bb001;bb000;bm033;"), 2, 1, 2, 0);
        alike("not in but five TOES", Checks.valleyOf("bb032;bb000;bb001;"), 0, -9, 1, 0);
        BrideNotKnown x = Checks.valleyOf("bb005;bb005;bb005;bb003;g6305;g6303;w0;");
        alike("0 is MARRIED", x, 1, 12, 2, 5);
        checks.due("3 is SENT home", x.wedding(1), 3);
        alike("0 and 3 are not HERE", x, 1, 12, 2, 5);
        BrideNotKnown away = Checks.valleyOf("bb000;g0000;w0;");
        alike("nobody is HERE", away, 0, -9, 0, -9);
        away.years(1);
        alike("she is HERE", away, 0, -9, 1, 0);
    }

    /** "the TOE by which BRIDES HERE who SHOW it and who do not are nearest in number, of several the least". */
    private static void promise26() {
        checks.due("nobody", new BrideNotKnown().tells(), 0);
        checks.due("one without TOES", Checks.valleyOf("bb000;").tells(), 0);
        checks.due("one with all", Checks.valleyOf("bb063;").tells(), 0);
        int[] feet = {1, 2, 4, 8, 16, 32};
        for (int toe = 0; toe <= 5; toe++) {
            String two = "" + feet[toe] / 10 + feet[toe] % 10;
            checks.due("one SHOWS it, one not: " + toe, Checks.valleyOf("bb0" + two + ";bb000;").tells(), toe);
            String four = ("bb0" + two + ";").repeat(4) + "bb000;bb000;bb000;bb000;";
            checks.due("four and four: " + toe, Checks.valleyOf(four).tells(), toe);
        }
        checks.due("TOES 1 and 5 as near: the least", Checks.valleyOf("bb034;bb000;").tells(), 1);
        checks.due("3 by 5 is nearer than 2 by 6",
                Checks.valleyOf("bb001;bb001;bb032;bb032;bb032;bb000;bb000;bb000;").tells(), 5);
        checks.due("5 by 3 is nearer than 6 by 2",
                Checks.valleyOf("bb033;bb033;bb033;bb033;bb033;bb001;bb000;bb000;").tells(), 5);
        checks.due("3 by 5 as near as 5 by 3: the least",
                Checks.valleyOf("bb002;bb002;bb002;bb002;bb002;bb001;bb001;bb001;").tells(), 0);
        BrideNotKnown x = Checks.valleyOf("bb001;bb002;bb000;bb000;g6301;w0;");
        checks.due("0 is SENT home", x.tells(), 1);
        BrideNotKnown y = Checks.valleyOf("bb001;bb002;bb000;bb000;g0000;w0;");
        checks.due("0 is MARRIED", y.tells(), 1);
    }

    /** "of all LOOKS the one of fewest TOES, of several the least, by which no two BRIDES HERE SHOW the same; -9". */
    private static void promise27() {
        checks.due("nobody", new BrideNotKnown().sees(), 0);
        checks.due("one", Checks.valleyOf("bb063;").sees(), 0);
        checks.due("two alike", Checks.valleyOf("bb063;bb063;").sees(), -9);
        checks.due("two in each TOE otherwise", Checks.valleyOf("bb063;bb000;").sees(), 1);
        checks.due("in TOE 5", Checks.valleyOf("bb063;bb031;").sees(), 32);
        checks.due("all TOES", Checks.valleyOf("bb000;bb001;bb002;bb004;bb008;bb016;bb032;").sees(), 63);
        checks.due("8 by three", Checks.valleyOf(FEET_0_TO_7).sees(), 7);
        checks.due("8, two alike", Checks.valleyOf(FEET_0_TO_7.substring(6) + "bb007;").sees(), -9);
        checks.due("4 by two TOES, though three are a lesser number",
                Checks.valleyOf("bb000;bb017;bb034;bb052;").sees(), 48);
        checks.due("of TOES 0 and 1, 0 and 2, 1 and 2 the least", Checks.valleyOf("bb000;bb003;bb005;").sees(), 3);
        checks.due("by what they SHOW", Checks.valleyOf("bf000;bb001;").sees(), -9);
        checks.due("by what they SHOW, MASKED", Checks.valleyOf("bm001;bm032;").sees(), -9);
        BrideNotKnown x = Checks.valleyOf("bb000;bb000;g6300;w0;");
        checks.due("one alone is HERE", x.sees(), 0);
        BrideNotKnown y = Checks.valleyOf("bb000;bb001;bb002;g6301;w0;");
        checks.due("1 is SENT home", y.sees(), 2);
        y.years(1);
        checks.due("1 is HERE", y.sees(), 3);
        BrideNotKnown z = Checks.valleyOf("bb000;g6300;w0;");
        checks.due("nobody is HERE", z.sees(), 0);
    }

    /** Each set of TOES may be the answer: a BRIDE of none, and one of each TOE of the set alone. */
    private static void anySetOfToes() {
        for (int set = 0; set <= 63; set++) {
            StringBuilder text = new StringBuilder("bb000;");
            for (int toe = 0; toe <= 5; toe++) {
                if ((set >> toe & 1) == 1) {
                    text.append("bb0").append((1 << toe) / 10).append((1 << toe) % 10).append(";");
                }
            }
            checks.due("TOES " + set, Checks.valleyOf(text.toString()).sees(), set);
        }
    }

    private static void order(String what, BrideNotKnown x, int marry, int sent) {
        checks.due(what + ": MARRY", x.order(0), marry);
        checks.due(what + ": SENT home", x.order(1), sent);
        checks.due(what + ": MARRY, asked again", x.order(0), marry);
    }

    /** "of UNMARRIED GROOMS, all WEDDINGS one behind the other by numbers, from now". */
    private static void promise28() {
        order("nobody", new BrideNotKnown(), 0, 0);
        order("BRIDES alone", Checks.valleyOf(ALL_ALIKE), 0, 0);
        order("GROOMS alone", Checks.valleyOf("g0000;g0000;"), 0, 0);
        order("all 5 MARRY", Checks.valleyOf(ALL_ALIKE + "g6300;g6300;g6300;g6300;g6363;"), 5, 0);
        order("5 are SENT home", Checks.valleyOf(FEET_0_TO_7 + "g6300;g6301;g6302;g6303;g6304;"), 0, 5);
        order("behind the first nobody is HERE", Checks.valleyOf("bb000;g6300;g6300;g6300;"), 0, 1);
        order("behind two nobody is HERE", Checks.valleyOf("bb000;bb000;g6300;g6300;g6300;"), 1, 1);
        order("none is SENT home twice", Checks.valleyOf("bb000;bb001;g6300;g6300;g6300;"), 1, 1);
        order("by LIQUOR", Checks.valleyOf("bb000;bb000;bb001;g0000;l02;g6300;"), 2, 0);
        order("by LIQUOR 0", Checks.valleyOf("bb000;bb000;bb001;g0000;g6300;"), 1, 1);
        BrideNotKnown x = Checks.valleyOf("bb000;bb000;bb000;g6300;g6300;w0;");
        order("0 is MARRIED", x, 1, 0);
        checks.due("1 MARRIES", x.wedding(1), 101);
        order("all are MARRIED", x, 0, 0);
        BrideNotKnown now = Checks.valleyOf("bc000;bb001;g6300;");
        order("in an even YEAR", now, 0, 1);
        now.years(1);
        order("in an odd YEAR", now, 1, 0);
    }

    /** "how many TOES of all BRIDES HERE are SHOWN otherwise than they are". */
    private static void promise29() {
        checks.due("nobody", new BrideNotKnown().lies(), 0);
        checks.due("BRIDES SHOW what is", Checks.valleyOf(FEET_0_TO_7).lies(), 0);
        checks.due("all TOES of all 8", Checks.valleyOf(ALL_ALIKE.replace("bb000;", "bt063;")).lies(), 48);
        checks.due("8 FEIGNERS", Checks.valleyOf(ALL_ALIKE.replace("bb000;", "bf900;")).lies(), 8);
        checks.due("two TOES less", Checks.valleyOf("bm063;").lies(), 2);
        checks.due("none less", Checks.valleyOf("bm030;").lies(), 0);
        checks.due("the first SISTER", Checks.valleyOf("bs063;").lies(), 0);
        checks.due("the second", Checks.valleyOf("bs063;bs000;").lies(), 6);
        BrideNotKnown x = Checks.valleyOf("bf000;bf001;bf002;g6301;g6303;");
        checks.due("three", x.lies(), 3);
        checks.due("0 is SENT home", x.wedding(0), 0);
        checks.due("two", x.lies(), 2);
        checks.due("2 is SENT home", x.wedding(1), 2);
        checks.due("one", x.lies(), 1);
        checks.due("1 is MARRIED", x.wedding(0), 101);
        checks.due("none", x.lies(), 0);
    }

    /** "a ROW of TOES, told to be in the FOOT of a BRIDE: how many numbers of it are right (it stays)". */
    private static void promise30() {
        BrideNotKnown x = Checks.valleyOf("bb063;bb000;bb032;bb001;bf000;");
        for (int b = 0; b < 5; b++) {
            checks.due("a ROW of none, " + b, x.rightly(b), 0);
        }
        Checks.numbers(x, 0, 1, 2, 3, 4, 5);
        int[] ofEach = {6, 0, 1, 1, 0};
        for (int b = 0; b < 5; b++) {
            checks.due("a ROW of each TOE, " + b, x.rightly(b), ofEach[b]);
        }
        Checks.numbers(x, 6, 7, 8, 31, 32, 33, 37, 38, 63, 64, 65, 69, 95, 96, 97, 99);
        for (int b = 0; b < 5; b++) {
            checks.due("a ROW of no TOES, " + b, x.rightly(b), 0);
        }
        Checks.numbers(x, 5, 5, 5, 5, 5, 5, 5, 5, 5, 5, 5, 5, 5, 5, 5, 5);
        int[] ofSixteen = {16, 0, 16, 0, 0};
        for (int b = 0; b < 5; b++) {
            checks.due("a ROW of 16, " + b, x.rightly(b), ofSixteen[b]);
        }
        checks.due("it stays", x.count(6), 16);
        Checks.numbers(x, 0);
        checks.due("her FOOT, not what she SHOWS", x.rightly(4), 0);
        checks.due("one number, right", x.rightly(3), 1);
        BrideNotKnown away = Checks.valleyOf("bb001;bb001;g0000;w0;g6301;w1;");
        Checks.numbers(away, 0);
        checks.due("nobody is HERE", away.count(3), 0);
        checks.due("of a MARRIED one", away.rightly(0), 1);
        checks.due("of one SENT home", away.rightly(1), 1);
    }

    /** "the first pair (10 the first's and the other's) by which neither has less by another one alone; -9". */
    private static void promise31() {
        checks.due("without GROOMS the first pair", Checks.valleyOf("bb000;bb000;").two(0, 1), 0);
        checks.due("0 and 7 of 8", Checks.valleyOf(ALL_ALIKE).two(0, 7), 0);
        checks.due("7 and 6 of 8", Checks.valleyOf(ALL_ALIKE).two(7, 6), 0);
        BrideNotKnown one = Checks.valleyOf("bb001;bb002;bs000;g0101;");
        checks.due("0 hides, 2 is as she is", one.two(0, 2), 10);
        checks.due("told the other way", one.two(2, 0), 1);
        BrideNotKnown join = Checks.valleyOf("bb000;bb001;bb000;bb003;g0101;");
        checks.due("both join", join.two(0, 2), 11);
        checks.due("both join, told the other way", join.two(2, 0), 11);
        BrideNotKnown weighed = Checks.valleyOf("bb000;bb002;bs000;g0100;g0100;g0100;g0100;g0300;");
        checks.due("KNOWN by one, among the GUESSES of 5", weighed.known(0), 1);
        checks.due("KNOWN weighs more than all GUESSES", weighed.two(0, 2), 10);
        checks.due("the other way", weighed.two(2, 0), 1);
        BrideNotKnown fewest = Checks.valleyOf("bb000;bb002;bs000;g6300;g0200;");
        checks.due("KNOWN by two, or by one", fewest.two(0, 2), 10);
        BrideNotKnown same = Checks.valleyOf("bb000;bb002;bs000;g0200;");
        checks.due("KNOWN by one either way: as much is not less", same.two(0, 2), 0);
        BrideNotKnown more = Checks.valleyOf("bb000;bb001;bb001;bs000;g0101;g0100;g0100;g6302;");
        checks.due("KNOWN by two: she joins 1 and 2", more.two(0, 3), 10);
        BrideNotKnown alone = Checks.valleyOf("bb001;bb001;bs000;g0101;");
        checks.due("among others she stays", alone.two(0, 2), 0);
        BrideNotKnown never = Checks.valleyOf("bb000;bt003;g0100;g0302;g0201;");
        checks.due("none rests", never.two(0, 1), -9);
        checks.due("none rests, told the other way", never.two(1, 0), -9);
        BrideNotKnown married = Checks.valleyOf("bb001;bb001;bb000;g0101;l01;w0;");
        checks.due("a MARRIED one KNOWS 0", married.groom(0, 5), 0);
        checks.due("for her it is nothing", married.two(0, 2), 0);
        checks.due("nor for 2", married.two(2, 0), 0);
        BrideNotKnown now = Checks.valleyOf("bc001;bb002;bs000;g6300;");
        checks.due("now she is not KNOWN", now.two(0, 2), 0);
        now.years(1);
        checks.due("in an odd YEAR she is: she changes", now.two(0, 2), 10);
        checks.due("her FOOT stays", now.bride(0, 2), 1);
    }

    public static void main(String[] args) {
        promise25();
        promise26();
        promise27();
        anySetOfToes();
        promise28();
        promise29();
        promise30();
        promise31();
        checks.end();
    }
}
