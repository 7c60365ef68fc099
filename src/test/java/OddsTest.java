/** Promises 32 to 41: odds, what she is, the row, lots, the image and counts. */
public final class OddsTest {
    private static final Checks checks = new Checks("OddsTest");
    private static final long REFUSED = 4000000000000000000L;

    private static void chance(BrideNotKnown x, int bride, int n, long above, long below) {
        checks.due("chance(" + bride + ", " + n + ", 0)", x.chance(bride, n, 0), above);
        checks.due("chance(" + bride + ", " + n + ", 1)", x.chance(bride, n, 1), below);
    }

    private static void promise32() {
        BrideNotKnown x = Checks.valleyOf("bb001;bb001;bb002;bb004;g6301;g6333;g6302;g0000;g6301;");
        chance(x, 0, 0, 0, 1);
        chance(x, 0, 1, 1, 2);
        chance(x, 0, 2, 5, 8);
        chance(x, 0, 3, 5, 8);
        chance(x, 0, 4, 23, 32);
        chance(x, 2, 1, 0, 1);
        chance(x, 2, 2, 1, 4);
        chance(x, 2, 3, 1, 1);
        chance(x, 3, 4, 7, 16);
        checks.due("chance(4, -1, 2)", x.chance(4, -1, 2), REFUSED + 1);
        checks.due("chance(-1, 0, 0)", x.chance(-1, 0, 0), REFUSED + 1);
        checks.due("chance(0, -1, 2)", x.chance(0, -1, 2), REFUSED + 4);
        checks.due("chance(0, 5, 2)", x.chance(0, 5, 2), REFUSED + 6);
        checks.due("chance(0, 4, 2)", x.chance(0, 4, 2), REFUSED + 2);
        checks.due("chance(0, 4, -1)", x.chance(0, 4, -1), REFUSED + 2);
        checks.due("nobody refused", x.count(11), 2);
        checks.due("other refused", x.count(12), 2);
        checks.due("below refused", x.count(14), 1);
        checks.due("room refused", x.count(16), 1);
        checks.due("0 marries 0", x.wedding(0), 100);
        chance(x, 0, 4, 0, 1);
        chance(x, 1, 1, 1, 3);
        chance(x, 1, 2, 1, 3);
        chance(x, 1, 4, 1, 1);
        BrideNotKnown y = Checks.valleyOf("bb000;g6300;g6300;w0;");
        chance(y, 0, 2, 0, 1);
        BrideNotKnown z = Checks.valleyOf("bb000;bb000;bb000;bb000;bb000;bb000;bb000;bb000;g6300;g6300;g6300;g6300;g6300;");
        chance(z, 7, 4, 1695, 4096);
        chance(Checks.valleyOf("bb000;"), 0, 4, 0, 1);
    }

    private static void promise33() {
        BrideNotKnown x = new BrideNotKnown();
        checks.due("of none", x.mean(0), 0);
        checks.due("by 1", x.mean(1), 1);
        checks.due("mean(2)", x.mean(2), REFUSED + 2);
        checks.due("mean(-1)", x.mean(-1), REFUSED + 2);
        checks.due("refused", x.count(12), 2);
        BrideNotKnown y = Checks.valleyOf("bb007;bf007;bs063;bb000;g6363;");
        checks.due("12 by 4", y.mean(0), 3);
        checks.due("12 by 4 below", y.mean(1), 1);
        BrideNotKnown z = Checks.valleyOf("bb003;bf001;bs003;bb001;g6300;w0;");
        checks.due("6 by 4, one is away", z.mean(0), 3);
        checks.due("6 by 4 below", z.mean(1), 2);
        checks.due("3 by 1", Checks.valleyOf("bb007;").mean(0), 3);
        checks.due("3 by 1 below", Checks.valleyOf("bb007;").mean(1), 1);
        BrideNotKnown v = Checks.valleyOf("bb000;bb000;");
        checks.due("0 by 2", v.mean(0), 0);
        checks.due("0 by 2 below", v.mean(1), 1);
    }

    private static void promise34() {
        BrideNotKnown x = Checks.valleyOf("bb003;bc207;");
        checks.due("no numbers: all kinds", x.whatIs(1, 0), 63);
        checks.due("no numbers: all figures", x.whatIs(1, 1), 1023);
        Checks.numbers(x, 7);
        checks.due("7 now: b and c", x.whatIs(1, 0), 9);
        checks.due("7 now by any figure, she is c", x.whatIs(1, 1), 1023);
        Checks.numbers(x, 7, 3);
        checks.due("7 3: c", x.whatIs(1, 0), 8);
        checks.due("7 3: figures 2 and 8", x.whatIs(1, 1), 260);
        Checks.numbers(x, 7, 3, 7, 3, 7, 3, 7, 3, 7, 3, 7, 3, 7, 3, 7, 3);
        checks.due("16 numbers: c", x.whatIs(1, 0), 8);
        checks.due("the row stays", x.count(6), 16);
        Checks.numbers(x, 7, 7);
        checks.due("7 7: b", x.whatIs(1, 0), 1);
        checks.due("7 7: as c by no figure", x.whatIs(1, 1), 0);
        Checks.numbers(x, 3, 3);
        checks.due("3 3: s and f", x.whatIs(1, 0), 6);
        Checks.numbers(x, 4, 4);
        checks.due("4 4: t", x.whatIs(1, 0), 16);
        Checks.numbers(x, 6, 2);
        checks.due("6 2: m", x.whatIs(1, 0), 32);
        Checks.numbers(x, 99);
        checks.due("99: none", x.whatIs(1, 0), 0);
        x.years(1);
        Checks.numbers(x, 3, 7);
        checks.due("from an odd year: c", x.whatIs(1, 0), 8);
        checks.due("whatIs(2, 2)", x.whatIs(2, 2), -1);
        checks.due("whatIs(-1, 0)", x.whatIs(-1, 0), -1);
        checks.due("whatIs(0, 2)", x.whatIs(0, 2), -2);
        checks.due("whatIs(0, -1)", x.whatIs(0, -1), -2);
        checks.due("she stays what she is", x.bride(1, 0), 3);
        checks.due("by her figure", x.bride(1, 1), 2);
    }

    private static void promises35To37() {
        BrideNotKnown x = Checks.valleyOf("bb001;bb001;bb002;g6301;g6302;g6303;");
        checks.due("an empty row is judged", x.judge(), -9);
        checks.due("row(-1)", x.row(-1), -4);
        checks.due("row(100)", x.row(100), -6);
        checks.due("none came", x.count(6), 0);
        checks.due("row(99)", x.row(99), 1);
        checks.due("row(0)", x.row(0), 2);
        checks.due("clear()", x.clear(), 2);
        checks.due("clear() again", x.clear(), 0);
        for (int i = 1; i <= 16; i++) {
            checks.due("number " + i, x.row(i), i);
        }
        checks.due("a 17th", x.row(0), -6);
        checks.due("a 17th below", x.row(-1), -4);
        checks.due("16 are judged", x.judge(), 0);
        checks.due("and gone", x.count(6), 0);
        Checks.numbers(x, 2, 1, 0);
        checks.due("all is right", x.judge(), -9);
        checks.due("the row has none then", x.count(6), 0);
        Checks.numbers(x, 2, 1);
        checks.due("fewer than grooms", x.judge(), -9);
        Checks.numbers(x, 2, 2, 1);
        checks.due("1 has one", x.judge(), 1);
        Checks.numbers(x, 2, 1, 0, 0);
        checks.due("nobody is there", x.judge(), 3);
        Checks.numbers(x, 1, 1, 0, 0);
        checks.due("0 has two", x.judge(), 0);
        x.wedding(0);
        Checks.numbers(x, 1, 1, 0);
        checks.due("a married one guesses, too", x.judge(), -9);
    }

    /** Draws by BigInteger, weddings by an object of its own. */
    private static long[] lotsOf(String text, int brides, int grooms, int n, int z) {
        java.math.BigInteger whole = java.math.BigInteger.ONE.shiftLeft(32);
        java.math.BigInteger seed = java.math.BigInteger.valueOf(z).mod(whole);
        long[] total = new long[2];
        for (int v = 0; v < n; v++) {
            BrideNotKnown x = Checks.valleyOf(text);
            for (int i = 0; i < brides + grooms; i++) {
                seed = seed.multiply(java.math.BigInteger.valueOf(1664525))
                        .add(java.math.BigInteger.valueOf(1013904223)).mod(whole);
                int drawn = (int) ((seed.longValue() % (1L << 31)) / 256 % 64);
                if (i >= brides) {
                    x.minds(i - brides, drawn);
                } else {
                    for (int toe = 0; toe < 6; toe++) {
                        if (((x.bride(i, 2) ^ drawn) >> toe & 1) == 1) {
                            x.changes(i, toe);
                        }
                    }
                }
            }
            total[0] += x.order(0);
            total[1] += x.order(1);
        }
        return total;
    }

    private static void promise38() {
        String text = "bb007;bs007;bf321;bc412;g0307;g1221;l15;g0000;w2;";
        int[] seeds = {0, 7, -1, Integer.MIN_VALUE, Integer.MAX_VALUE, 123456789};
        for (int z : seeds) {
            for (int n = 1; n <= 20; n += n < 3 ? 1 : 17) {
                long[] due = lotsOf(text, 4, 3, n, z);
                BrideNotKnown x = Checks.valleyOf(text);
                checks.due("lots(" + n + ", " + z + ", 0)", x.lots(n, z, 0), due[0]);
                checks.due("lots(" + n + ", " + z + ", 1)", x.lots(n, z, 1), due[1]);
            }
        }
        BrideNotKnown x = Checks.valleyOf(text);
        x.lots(20, 1, 0);
        checks.due("feet stay", x.bride(0, 2), 7);
        checks.due("minds stay", x.groom(1, 1), 21);
        checks.due("who is here stays", x.count(3), 14);
        checks.due("lots(0, 0, 2)", x.lots(0, 0, 2), -4);
        checks.due("lots(-1, 0, 0)", x.lots(-1, 0, 0), -4);
        checks.due("lots(21, 0, 2)", x.lots(21, 0, 2), -6);
        checks.due("lots(20, 0, 2)", x.lots(20, 0, 2), -2);
        checks.due("lots(1, 0, -1)", x.lots(1, 0, -1), -2);
        checks.due("nobody weds", new BrideNotKnown().lots(20, 3, 0), 0);
    }

    private static void promises39And40() {
        BrideNotKnown x = new BrideNotKnown();
        checks.due("on() without an image", x.on(), -3);
        Checks.told(x, "bf207;bb001;bc303;g6301;g0003;l05;y01;");
        checks.due("image() tells YEAR", x.image(), 1);
        checks.due("0 sends home", x.wedding(0), 1);
        checks.due("1 marries", x.wedding(1), 100);
        Checks.told(x, "bb063;g0101;y20;");
        x.turn(0, 4, 9);
        x.changes(2, 5);
        x.looks(0, 1);
        x.minds(0, 2);
        x.drinks(0, 9);
        Checks.letters(x, "bb0");
        x.row(5);
        x.row(100);
        for (int i = 0; i < 2; i++) {
            checks.due("on() tells YEAR", x.on(), 1);
            checks.due("brides", x.count(0), 3);
            checks.due("grooms", x.count(1), 2);
            checks.due("YEAR", x.count(2), 1);
            checks.due("here", x.count(3), 7);
            checks.due("married", x.count(4), 0);
            checks.due("kind", x.bride(0, 0), 2);
            checks.due("figure", x.bride(0, 1), 2);
            checks.due("foot", x.bride(2, 2), 3);
            checks.due("years", x.bride(1, 4), 0);
            checks.due("looks", x.groom(0, 0), 63);
            checks.due("mind", x.groom(0, 1), 1);
            checks.due("liquor", x.groom(0, 2), 4);
            checks.due("letters stay", x.count(7), 3);
            checks.due("the row stays", x.count(6), 1);
            checks.due("refusals stay", x.count(16), 1);
            checks.due("refusals of on() stay", x.count(13), 1);
            x.wedding(0);
            x.years(2);
        }
        checks.due("another image", x.image(), 3);
        x.years(4);
        checks.due("on() from it", x.on(), 3);
        Checks.letters(x, "00;g6303;");
        checks.due("the letters go on", x.valley(), 2);
        checks.due("a new bride is as told", x.bride(3, 2), 0);
        checks.due("a new groom is as told", x.groom(2, 2), 0);
        BrideNotKnown y = new BrideNotKnown();
        checks.due("an image of nothing", y.image(), 0);
        Checks.told(y, "bf207;g6363;g0000;l19;w1;");
        checks.due("on() from nothing", y.on(), 0);
        checks.due("nobody is", y.bride(0, 0), -1);
        checks.due("told anew", Checks.told(y, "bb001;bb001;g6300;g0000;"), 4);
        checks.due("a bride anew is here", y.count(3), 3);
        checks.due("a groom anew is unmarried", y.count(4), 0);
        checks.due("and sober", y.count(5), 0);
    }

    private static void promise41() {
        BrideNotKnown x = Checks.valleyOf("bb001;bb002;bb003;g6301;g0000;l07;l14;w0;w1;y01;");
        checks.due("brides", x.count(0), 3);
        checks.due("grooms", x.count(1), 2);
        checks.due("YEAR", x.count(2), 1);
        checks.due("here: 0 is still away, 1 is married", x.count(3), 4);
        checks.due("married grooms", x.count(4), 2);
        checks.due("all liquor", x.count(5), 9);
        x.row(3);
        x.letter(3);
        x.letter(4);
        checks.due("in the row", x.count(6), 1);
        checks.due("letters", x.count(7), 2);
        int[] others = {-1, 8, 9, 10, 17, 100, Integer.MIN_VALUE, Integer.MAX_VALUE};
        for (int what : others) {
            checks.due("count(" + what + ")", x.count(what), -9);
        }
        int[] none = {0, 0, 0, 0, 0, 0};
        refusals(x, none);
        x.bride(9, 9);
        refusals(x, new int[] {1, 0, 0, 0, 0, 0});
        x.known(5);
        x.mean(5);
        refusals(x, new int[] {1, 2, 0, 0, 0, 0});
        x.on();
        x.wedding(1);
        x.hide(1);
        refusals(x, new int[] {1, 2, 3, 0, 0, 0});
        x.years(0);
        x.chance(0, -1, 0);
        refusals(x, new int[] {1, 2, 3, 2, 0, 0});
        x.years(61);
        refusals(x, new int[] {1, 2, 3, 2, 0, 1});
    }

    private static void refusals(BrideNotKnown x, int[] due) {
        for (int i = 0; i < 6; i++) {
            checks.due("count(" + (11 + i) + ")", x.count(11 + i), due[i]);
        }
    }

    public static void main(String[] args) {
        promise32();
        promise33();
        promise34();
        promises35To37();
        promise38();
        promises39And40();
        promise41();
        checks.end();
    }
}
