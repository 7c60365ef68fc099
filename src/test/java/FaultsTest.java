import java.util.List;

/** The edges of letters and of what valley() makes of them: STATEMENTS, both kinds of FAULTS, 96 letters. */
public final class FaultsTest {
    private static final String EIGHT = "bb000;bb000;bb000;bb000;bb000;bb000;bb000;bb000;";
    private static final Checks checks = new Checks("FaultsTest");

    private static void fault(String text, int want) {
        checks.due("valley() of " + text, Checks.told(new BrideNotKnown(), text), want);
    }

    private static String times(int n, String text) {
        StringBuilder all = new StringBuilder();
        for (int i = 0; i < n; i++) {
            all.append(text);
        }
        return all.toString();
    }

    /** "A letter (0 .. 255) comes", "96 at most". */
    private static void ninetySix() {
        String text = EIGHT + times(12, "t70;");
        BrideNotKnown x = new BrideNotKnown();
        for (int i = 0; i < 96; i++) {
            checks.due("letter " + (i + 1), x.letter(text.charAt(i)), i + 1);
        }
        checks.due("96 there are", x.count(7), 96);
        checks.due("a 97th", x.letter('t'), -6);
        checks.due("still 96", x.count(7), 96);
        checks.due("the 96 are a VALLEY", x.valley(), 20);
        checks.due("none there is", x.count(7), 0);
        checks.due("a first again", x.letter('y'), 1);
        Checks.letters(x, "01;");
        checks.due("and again a VALLEY", x.valley(), 1);
        Checks.letters(x, times(24, "y01;"));
        checks.due("96 anew", x.count(7), 96);
        checks.due("24 STATEMENTS", x.valley(), 24);
        checks.due("all have come", x.count(2), 25);
        fault(EIGHT + times(11, "t70;") + "bb00", -1096);
        fault(EIGHT + times(11, "t70;") + "t70", -1095);
        fault(EIGHT + times(11, "t70;") + "t70b", -1095);
        fault(EIGHT + times(11, "t70;") + "t76;", -2092);
        fault(EIGHT + times(11, "t70;") + "t80;", -2092);
        fault(times(96, ";"), -1000);
        BrideNotKnown tooMuch = new BrideNotKnown();
        Checks.letters(tooMuch, times(23, "y01;") + "w0;y");
        checks.due("of 99 letters 96 come", tooMuch.count(7), 96);
        checks.due("what did not come lacks", tooMuch.valley(), -1096);
    }

    /** Every letter at every place of every STATEMENT: one with which it can go on, or a FAULT there. */
    private static void everyLetter() {
        String[] samples = {"bb000;", "g0000;", "t00;", "l00;", "w0;", "y01;"};
        for (String sample : samples) {
            for (int place = 0; place < sample.length(); place++) {
                for (int c = 0; c <= 255; c++) {
                    everyLetter(sample, place, (char) c);
                }
            }
        }
    }

    private static void everyLetter(String sample, int place, char c) {
        String digits = "0123456789";
        String fitting = place == 0 ? "bgtlwy" : place == sample.length() - 1 ? ";"
                : place == 1 && sample.startsWith("b") ? "bsfctm" : digits;
        boolean fits = fitting.indexOf(c) >= 0;
        boolean isWhole = fits && c == ';';
        if (!isWhole) {
            fault("y01;" + sample.substring(0, place) + c, -1004 - (fits ? place + 1 : place));
        }
        if (!fits) {
            fault("y01;" + sample.substring(0, place) + c + sample.substring(place + 1), -1004 - place);
        }
    }

    /** "the place of the first letter with which no VALLEY can go on (the end, if something lacks)". */
    private static void lacking() {
        fault("", -1000);
        String[] samples = {"bb000;", "g0000;", "t00;", "l00;", "w0;", "y01;"};
        for (String sample : samples) {
            for (int cut = 1; cut < sample.length(); cut++) {
                fault(sample.substring(0, cut), -1000 - cut);
                fault("y01;" + sample.substring(0, cut), -1004 - cut);
            }
        }
        fault("bb000", -1005);
        fault("bb000g0000;", -1005);
        fault("w0;;", -1003);
        fault(" w0;", -1000);
        fault("w 0;", -1001);
        fault("w0 ;", -1002);
        fault("w0; ", -1003);
        fault("y1;", -1002);
        fault("y001;", -1003);
        fault("y-1;", -1001);
    }

    /** "kind 1 ..; else kind 2": wherever the one of kind 1 stands, it is told. */
    private static void kind1First() {
        fault("bb064;", -2000);
        fault("bb064;b", -1007);
        fault("bb064;x", -1006);
        fault("y00;t00;w0;l00;g9999;y", -1022);
        fault("bb000;t06;y61;;", -1014);
    }

    /** "kind 2 the place of the first letter of the first STATEMENT that .. is not as it must be". */
    private static void kind2First() {
        fault("bb064;bb065;", -2000);
        fault("bb063;bb064;bb065;", -2006);
        fault("y60;y61;y00;", -2004);
        fault("w0;l00;t00;", -2000);
        fault("l00;t00;w0;", -2000);
        fault("bb000;t00;l00;w0;", -2010);
    }

    private static void numbersOutOfRange() {
        for (int n = 0; n <= 99; n++) {
            String two = "" + n / 10 + n % 10;
            BrideNotKnown foot = new BrideNotKnown();
            checks.due("FOOT " + two, Checks.told(foot, "bb0" + two + ";"), n <= 63 ? 1 : -2000);
            checks.due("who comes with FOOT " + two, foot.count(0), n <= 63 ? 1 : 0);
            BrideNotKnown looks = new BrideNotKnown();
            checks.due("LOOKS " + two, Checks.told(looks, "g" + two + "00;"), n <= 63 ? 1 : -2000);
            checks.due("LOOKS that come", n <= 63 ? looks.groom(0, 0) : looks.count(1), n <= 63 ? n : 0);
            BrideNotKnown mind = new BrideNotKnown();
            checks.due("MIND " + two, Checks.told(mind, "g00" + two + ";"), n <= 63 ? 1 : -2000);
            checks.due("MIND that comes", n <= 63 ? mind.groom(0, 1) : mind.count(1), n <= 63 ? n : 0);
            BrideNotKnown years = new BrideNotKnown();
            boolean go = n >= 1 && n <= 60;
            checks.due("YEARS " + two, Checks.told(years, "y" + two + ";"), go ? 1 : -2000);
            checks.due("YEAR behind y" + two, years.count(2), go ? n : 0);
        }
        for (int n = 0; n <= 9; n++) {
            fault("bb000;t0" + n + ";", n <= 5 ? 2 : -2006);
            fault("bb" + n + "00;", 1);
            BrideNotKnown liquor = new BrideNotKnown();
            checks.due("LIQUOR " + n, Checks.told(liquor, "g0000;l0" + n + ";"), 2);
            checks.due("LIQUOR that comes", liquor.groom(0, 2), n);
        }
    }

    /** "no such BRIDE, GROOM so far". */
    private static void nobodySoFar() {
        for (int n = 0; n <= 9; n++) {
            fault("bb000;bb000;bb000;t" + n + "0;", n <= 2 ? 4 : -2018);
            fault("g0000;g0000;g0000;l" + n + "0;", n <= 2 ? 4 : -2018);
            fault("bb000;bb000;g0000;g0000;w" + n + ";", n <= 1 ? 5 : -2024);
            fault(EIGHT + "t" + n + "5;", n <= 7 ? 9 : -2048);
            fault("g0000;g0000;g0000;g0000;g0000;l" + n + "9;", n <= 4 ? 6 : -2030);
            fault("bb000;g0000;g0000;g0000;g0000;g0000;w" + n + ";", n <= 4 ? 7 : -2036);
        }
        fault("t00;bb000;", -2000);
        fault("l00;g0000;", -2000);
        fault("bb000;w0;g0000;", -2006);
        fault("g0000;t00;", -2006);
        fault("bb000;l00;", -2006);
        fault("bb000;t10;bb000;", -2006);
        fault("bb000;bb000;t10;", 3);
        BrideNotKnown x = Checks.valleyOf("bb000;g0000;");
        checks.due("those told ahead are so far, too", Checks.told(x, "t00;l00;bb000;t10;"), 4);
        checks.due("but no others", Checks.told(x, "t20;"), -2000);
        checks.due("nor other GROOMS", Checks.told(x, "w1;"), -2000);
    }

    /** "a WEDDING that can not be", "behind all ahead of it in the text". */
    private static void weddings() {
        fault("g0000;w0;", -2006);
        fault("bb000;g0000;w0;", 3);
        fault("bb000;g0000;w0;w0;", -2015);
        fault("bb000;g0000;w0;y01;w0;", 5);
        fault("bb000;g0000;l03;w0;y01;w0;", -2023);
        fault("bb000;g0000;l03;w0;y02;w0;", 6);
        fault("bb000;g0000;l09;w0;y03;w0;", -2023);
        fault("bb000;g0000;l09;w0;y04;w0;", 6);
        fault("bb000;bb000;g0000;w0;w0;", -2021);
        fault("bb000;bb000;g0000;w0;y60;w0;", -2025);
        fault("bb000;bb000;g0000;g0000;g0000;w0;w1;w2;", -2036);
        fault("bb000;bb000;g0000;g0000;g0000;w0;w1;y01;w2;", 9);
        fault("bb000;bb000;g0000;w0;bb000;w0;", -2027);
        fault("bb000;g0101;w0;g0000;w1;", -2021);
        fault("bb000;g0101;w0;g0000;bb000;w1;", 6);
        BrideNotKnown x = Checks.valleyOf("bb000;g0000;");
        checks.due("she is SENT home", x.wedding(0), 0);
        checks.due("nobody is HERE", Checks.told(x, "w0;"), -2000);
        checks.due("behind a YEAR she is", Checks.told(x, "y01;w0;"), 2);
        checks.due("and SENT home anew", x.bride(0, 4), 1);
        BrideNotKnown y = Checks.valleyOf("bb000;bb000;g0000;");
        checks.due("he MARRIES", y.wedding(0), 100);
        checks.due("he is MARRIED", Checks.told(y, "w0;"), -2000);
    }

    /** "YEAR above 999". */
    private static void yearAbove999() {
        BrideNotKnown x = new BrideNotKnown();
        checks.due("960 in one text", Checks.told(x, times(16, "y60;")), 16);
        checks.due("1000 in one more", Checks.told(x, "y40;"), -2000);
        checks.due("1000 in two more", Checks.told(x, "y39;y01;"), -2004);
        checks.due("960 still", x.count(2), 960);
        checks.due("999", Checks.told(x, "y39;"), 1);
        checks.due("999 it is", x.count(2), 999);
        checks.due("1000", Checks.told(x, "y01;"), -2000);
        checks.due("1059", Checks.told(x, "y60;"), -2000);
        BrideNotKnown y = new BrideNotKnown();
        checks.due("960 in one text", Checks.told(y, times(16, "y60;")), 16);
        checks.due("999 in three more", Checks.told(y, "y37;y01;y01;"), 3);
    }

    /** "no room for more". */
    private static void noRoom() {
        fault(EIGHT, 8);
        fault(EIGHT + "bb000;", -2048);
        fault(EIGHT + "bb064;", -2048);
        fault("g0000;g0000;g0000;g0000;g0000;", 5);
        fault("g0000;g0000;g0000;g0000;g0000;g0000;", -2030);
        fault(EIGHT + "g0000;g0000;g0000;g0000;g0000;y01;bb000;", -2082);
        fault(EIGHT + "g0000;g0000;g0000;g0000;g0000;y01;g0000;", -2082);
    }

    /** "Without FAULT all of it comes, with one nothing"; the letters "are no more (with a FAULT neither)". */
    private static void withFaultNothing() {
        String was = "bb001;bc302;bm963;g6301;g0000;l05;l17;y01;w1;";
        String[] faults = {"t00;t11;bb003;l09;g0303;w0;y03;bb064;", "y03;w0;t06;", "bb003;g0303;x", "w0;w0;w0;",
            "y03", "g0101;w2;l19;y00;"};
        for (String fault : faults) {
            BrideNotKnown x = Checks.valleyOf(was);
            x.image();
            BrideNotKnown twin = Checks.valleyOf(was);
            twin.image();
            checks.due("a FAULT of " + fault, Checks.told(x, fault) <= -1000 ? 1 : 0, 1);
            checks.due("no letters are left of " + fault, x.count(7), 0);
            for (int what = 11; what <= 16; what++) {
                checks.due("nothing is counted of " + fault, x.count(what), 0);
            }
            List<String> got = Twins.traceOf(x);
            checks.same("nothing comes of " + fault, got, Twins.traceOf(twin));
        }
        BrideNotKnown x = new BrideNotKnown();
        checks.due("a FAULT", Checks.told(x, "bb0x0;"), -1003);
        checks.due("what was right of it is gone", Checks.told(x, "00;"), -1000);
        checks.due("a VALLEY behind it", Checks.told(x, "bb000;"), 1);
        checks.due("it alone has come", x.count(0), 1);
    }

    /** "The letters become a VALLEY": STATEMENTS come in their order, "how many STATEMENTS". */
    private static void statements() {
        BrideNotKnown x = new BrideNotKnown();
        checks.due("one at least", Checks.told(x, "y01;"), 1);
        checks.due("each kind", Checks.told(x, "bc012;g1312;t00;l07;y01;w0;"), 6);
        checks.due("her FOOT: 12 and TOE 0", x.bride(0, 2), 13);
        checks.due("LIQUOR 7 is 6 in YEAR 2", x.groom(0, 2), 6);
        checks.due("with TOE 0 she is not as in his MIND, yet the only one HERE", x.bride(0, 5), 2);
        BrideNotKnown y = new BrideNotKnown();
        checks.due("the same in another order", Checks.told(y, "y01;bc012;g1312;l07;t00;w0;y01;"), 7);
        checks.due("in an odd YEAR her TOE 0 is as in his MIND: SENT home for 3, 1 is by", y.bride(0, 4), 2);
        BrideNotKnown z = new BrideNotKnown();
        checks.due("a TOE twice", Checks.told(z, "bb000;t05;t05;"), 3);
        checks.due("is as it was", z.bride(0, 2), 0);
        checks.due("LIQUOR twice", Checks.told(z, "g0000;l09;l00;"), 3);
        checks.due("is the last", z.groom(0, 2), 0);
    }

    public static void main(String[] args) {
        ninetySix();
        everyLetter();
        lacking();
        kind1First();
        kind2First();
        numbersOutOfRange();
        nobodySoFar();
        weddings();
        yearAbove999();
        noRoom();
        withFaultNothing();
        statements();
        checks.end();
    }
}
