/** Promises 1 to 3: a new object, letters, and the valley that they tell. */
public final class LettersTest {
    private static final Checks checks = new Checks("LettersTest");
    private static final String BRIDES_8 = "bb000;bb000;bb000;bb000;bb000;bb000;bb000;bb000;";
    private static final String GROOMS_5 = "g0000;g0000;g0000;g0000;g0000;";

    private static void promise1() {
        BrideNotKnown x = new BrideNotKnown();
        for (int what = 0; what <= 7; what++) {
            checks.due("new: count(" + what + ")", x.count(what), 0);
        }
        for (int what = 11; what <= 16; what++) {
            checks.due("new: count(" + what + ")", x.count(what), 0);
        }
        checks.due("new: bride(0, 0)", x.bride(0, 0), -1);
        checks.due("new: groom(0, 0)", x.groom(0, 0), -1);
        checks.due("new: on()", x.on(), -3);
    }

    private static void promise2() {
        BrideNotKnown x = new BrideNotKnown();
        checks.due("letter(-1)", x.letter(-1), -4);
        checks.due("letter(256)", x.letter(256), -6);
        checks.due("letter(MAX)", x.letter(Integer.MAX_VALUE), -6);
        checks.due("letter(MIN)", x.letter(Integer.MIN_VALUE), -4);
        checks.due("no letter came of these", x.count(7), 0);
        for (int i = 1; i <= 96; i++) {
            checks.due("letter " + i, x.letter(i == 1 ? 0 : 255), i);
        }
        checks.due("the 97th", x.letter(98), -6);
        checks.due("the 97th below", x.letter(-1), -4);
        checks.due("96 came", x.count(7), 96);
        checks.due("refused below", x.count(14), 3);
        checks.due("refused for room", x.count(16), 3);
    }

    private static void fault(String text, int want) {
        faultBehind("", text, want);
    }

    private static void faultBehind(String before, String text, int want) {
        BrideNotKnown x = Checks.valleyOf(before);
        int[] was = new int[8];
        for (int what = 0; what < 8; what++) {
            was[what] = x.count(what);
        }
        checks.due("fault of " + text + " behind " + before, Checks.told(x, text), want);
        for (int what = 0; what < 8; what++) {
            checks.due("count(" + what + ") behind the fault of " + text, x.count(what), was[what]);
        }
        for (int what = 11; what <= 16; what++) {
            checks.due("refusals behind the fault of " + text, x.count(what), 0);
        }
    }

    private static void promise3Form() {
        fault("", -1000);
        fault(";", -1000);
        fault("x", -1000);
        fault("B", -1000);
        fault("b", -1001);
        fault("ba000;", -1001);
        fault("bb", -1002);
        fault("bbx00;", -1002);
        fault("bb0x0;", -1003);
        fault("bb00;", -1004);
        fault("bb000", -1005);
        fault("bb0000;", -1005);
        fault("bb000;;", -1006);
        fault("bb000;x", -1006);
        fault("g", -1001);
        fault("g000;", -1004);
        fault("g0000", -1005);
        fault("t0;", -1002);
        fault("t000;", -1003);
        fault("l0;", -1002);
        fault("w", -1001);
        fault("w;", -1001);
        fault("w00;", -1002);
        fault("y1;", -1002);
        fault("y001;", -1003);
        fault("y/1;", -1001);
        fault("y:1;", -1001);
        fault("bb064;x", -1006);
        fault("t00;bb00", -1008);
        faultBehind("bb000;", "bb000", -1005);
        faultBehind("bb000;bb000;", "bb000;bb0", -1009);
    }

    private static void promise3Sense() {
        fault("bb064;", -2000);
        fault("bb099;", -2000);
        fault("g6400;", -2000);
        fault("g0064;", -2000);
        fault("bb000;t06;", -2006);
        fault("bb000;t10;", -2006);
        fault("t00;bb000;", -2000);
        fault("g0000;l15;", -2006);
        fault("l00;", -2000);
        fault("w0;", -2000);
        fault("g0000;w0;", -2006);
        fault("bb000;w0;", -2006);
        fault("bb000;g0000;w1;", -2012);
        fault("bb000;g0000;w0;w0;", -2015);
        fault("bb000;bb000;g0000;w0;bb000;w0;", -2027);
        fault("y00;", -2000);
        fault("y61;", -2000);
        fault("bb000;y01;t06;x", -1014);
        fault("y00;bb064;", -2000);
        faultBehind(BRIDES_8, "bb000;", -2000);
        faultBehind(GROOMS_5, "g0000;", -2000);
        faultBehind("bb000;", "bb000;t00;t20;", -2010);
        BrideNotKnown x = new BrideNotKnown();
        for (int i = 0; i < 16; i++) {
            x.years(60);
        }
        checks.due("YEAR 960", x.count(2), 960);
        checks.due("y40 at 960", Checks.told(x, "y40;"), -2000);
        checks.due("y20y20 at 960", Checks.told(x, "y20;y20;"), -2004);
        checks.due("YEAR is still 960", x.count(2), 960);
        checks.due("y39 at 960", Checks.told(x, "y39;"), 1);
        checks.due("YEAR 999", x.count(2), 999);
    }

    private static void promise3Comes() {
        BrideNotKnown x = new BrideNotKnown();
        checks.due("a valley of all", Checks.told(x, "bf363;bc941;g3512;t00;l07;"), 5);
        checks.due("no letters are left", x.count(7), 0);
        checks.due("brides", x.count(0), 2);
        checks.due("grooms", x.count(1), 1);
        checks.due("kind f", x.bride(0, 0), 2);
        checks.due("figure 3", x.bride(0, 1), 3);
        checks.due("foot 63 without toe 0", x.bride(0, 2), 62);
        checks.due("kind c", x.bride(1, 0), 3);
        checks.due("figure 9", x.bride(1, 1), 9);
        checks.due("foot 41", x.bride(1, 2), 41);
        checks.due("looks", x.groom(0, 0), 35);
        checks.due("mind", x.groom(0, 1), 12);
        checks.due("liquor", x.groom(0, 2), 7);
        checks.due("more come behind", Checks.told(x, "bt105;g6301;y02;"), 3);
        checks.due("brides then", x.count(0), 3);
        checks.due("grooms then", x.count(1), 2);
        checks.due("the first is as she was", x.bride(0, 2), 62);
        checks.due("kind t", x.bride(2, 0), 4);
        checks.due("YEAR 2", x.count(2), 2);
        checks.due("his liquor is less by 2", x.groom(0, 2), 5);
        checks.due("a new groom's liquor", x.groom(1, 2), 0);

        BrideNotKnown y = Checks.valleyOf("bb007;g6307;l09;w0;");
        checks.due("a wedding told: sent for 4", y.bride(0, 4), 4);
        checks.due("years told bring her back", Checks.told(y, "y04;g0000;w1;"), 3);
        checks.due("she is sent anew, known alone", y.bride(0, 4), 1);
        BrideNotKnown z = Checks.valleyOf("bb007;bs009;g6307;w0;");
        checks.due("a wedding told: she is married", z.bride(0, 5), 2);
        checks.due("and he", z.groom(0, 3), 1);
        String kinds = "bsfctm";
        for (int k = 0; k < 6; k++) {
            BrideNotKnown v = Checks.valleyOf("b" + kinds.charAt(k) + "263;");
            checks.due("kind of " + kinds.charAt(k), v.bride(0, 0), k);
        }
        BrideNotKnown w = new BrideNotKnown();
        checks.due("96 letters", Checks.told(w, BRIDES_8 + GROOMS_5 + "y60;y01;w0;l09;w1;"), 18);
        checks.due("8 brides", w.count(0), 8);
        checks.due("5 grooms", w.count(1), 5);
    }

    public static void main(String[] args) {
        promise1();
        promise2();
        promise3Form();
        promise3Sense();
        promise3Comes();
        checks.end();
    }
}
