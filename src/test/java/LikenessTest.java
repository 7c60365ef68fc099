/** Promises 25 to 31: who is alike, what tells them, weddings in order, letters and two brides. */
public final class LikenessTest {
    private static final Checks checks = new Checks("LikenessTest");

    private static void alike(BrideNotKnown x, int twos, int first, int greatest, int shown) {
        checks.due("alike(0)", x.alike(0), twos);
        checks.due("alike(1)", x.alike(1), first);
        checks.due("alike(2)", x.alike(2), greatest);
        checks.due("alike(3)", x.alike(3), shown);
    }

    private static void promise25() {
        alike(new BrideNotKnown(), 0, -9, 0, -9);
        alike(Checks.valleyOf("bb007;"), 0, -9, 1, 7);
        alike(Checks.valleyOf("bb009;bb007;bb003;"), 0, -9, 1, 3);
        alike(Checks.valleyOf("bb063;bb000;bb000;"), 1, 12, 2, 0);
        alike(Checks.valleyOf("bb000;bb063;bb063;"), 1, 12, 2, 63);
        alike(Checks.valleyOf("bb009;bb007;bs003;bb007;bb009;"), 4, 4, 3, 7);
        alike(Checks.valleyOf("bb009;bb007;bb007;bb009;bb001;"), 2, 3, 2, 7);
        BrideNotKnown x = Checks.valleyOf("bb007;bf207;bc207;bf203;g6307;");
        alike(x, 3, 2, 3, 7);
        x.years(1);
        alike(x, 2, 3, 2, 3);
        x.years(1);
        checks.due("groom 0 takes 0", x.wedding(0), 100);
        alike(x, 1, 23, 2, 7);
        BrideNotKnown y = Checks.valleyOf("bb007;bb007;bb001;g6301;w0;");
        alike(y, 1, 1, 2, 7);
        BrideNotKnown z = Checks.valleyOf("bb007;g6307;w0;");
        alike(z, 0, -9, 0, -9);
        checks.due("alike(4)", z.alike(4), -2);
        checks.due("alike(-1)", z.alike(-1), -2);
    }

    private static void promise26() {
        checks.due("nobody: toe 0", new BrideNotKnown().tells(), 0);
        checks.due("toe 1 is half and half", Checks.valleyOf("bb001;bb003;bb003;bb001;").tells(), 1);
        checks.due("of toes 2 and 4 the least", Checks.valleyOf("bb020;bb000;").tells(), 2);
        checks.due("one by two of three", Checks.valleyOf("bb048;bb032;bb032;").tells(), 4);
        checks.due("all toes alike", Checks.valleyOf("bb063;").tells(), 0);
        checks.due("2 by 1 as near as 1 by 2", Checks.valleyOf("bb001;bb001;bb002;").tells(), 0);
        checks.due("1 by 2 as near as 2 by 1", Checks.valleyOf("bb001;bb002;bb002;").tells(), 0);
        checks.due("as now, not in an odd year", Checks.valleyOf("bc100;bb000;").tells(), 0);
        checks.due("what is shown", Checks.valleyOf("bf300;bb000;").tells(), 3);
        BrideNotKnown x = Checks.valleyOf("bb001;bb000;bb034;g0101;w0;bb034;bb002;bb032;");
        checks.due("0 is away: toe 0 nobody shows, toe 1 tells 3 by 2", x.tells(), 1);
    }

    private static void promise27() {
        checks.due("nobody", new BrideNotKnown().sees(), 0);
        checks.due("one", Checks.valleyOf("bb005;").sees(), 0);
        checks.due("two alike", Checks.valleyOf("bb005;bs001;").sees(), -9);
        checks.due("toe 2", Checks.valleyOf("bb005;bb001;").sees(), 4);
        checks.due("of toes 1 and 5 the least", Checks.valleyOf("bb034;bb000;").sees(), 2);
        checks.due("toe 5", Checks.valleyOf("bb032;bb000;").sees(), 32);
        checks.due("three need two", Checks.valleyOf("bb000;bb032;bb016;").sees(), 48);
        checks.due("eight need three",
                Checks.valleyOf("bb000;bb001;bb004;bb005;bb032;bb033;bb036;bb037;").sees(), 37);
        checks.due("one toe each", Checks.valleyOf("bb001;bb002;bb004;bb008;bb016;bb032;bb000;").sees(), 63);
        BrideNotKnown x = Checks.valleyOf("bb001;bb002;bb002;g6302;w0;");
        checks.due("one of two alike is married", x.sees(), 1);
    }

    private static void promise28() {
        BrideNotKnown x = Checks.valleyOf("bb001;bb002;bb003;g6301;g6301;g6309;g6309;g0000;");
        checks.due("1 has no guess behind 0's wedding", x.order(0), 2);
        checks.due("0 sends 0 home, 3 is too late", x.order(1), 1);
        checks.due("nothing changed", x.count(3), 7);
        checks.due("nor he", x.count(4), 0);
        checks.due("order(2)", x.order(2), -2);
        checks.due("order(-1)", x.order(-1), -2);
        x.wedding(0);
        checks.due("1 and 2 marry", x.order(0), 2);
        checks.due("none is sent", x.order(1), 0);
        x.wedding(1);
        checks.due("a married one is past by", x.order(0), 1);
        BrideNotKnown y = Checks.valleyOf("bb001;bb002;g6301;g6302;");
        checks.due("both are sent", y.order(1), 2);
        checks.due("none marries", y.order(0), 0);
        checks.due("nobody", new BrideNotKnown().order(0), 0);
        BrideNotKnown z = Checks.valleyOf("bb001;bb001;g6301;");
        checks.due("bride 0 is married", z.order(0), 1);
        checks.due("not sent", z.order(1), 0);
    }

    private static void promise29() {
        checks.due("nobody", new BrideNotKnown().lies(), 0);
        BrideNotKnown x = Checks.valleyOf("bb063;bs000;bf321;bc412;bt005;bm963;g6312;");
        checks.due("0 6 1 0 2 2", x.lies(), 11);
        x.years(1);
        checks.due("0 6 1 1 2 3", x.lies(), 13);
        BrideNotKnown y = Checks.valleyOf("bf007;bf007;bb001;g6306;w0;");
        checks.due("only who is here", y.lies(), 1);
        checks.due("the first", Checks.valleyOf("bf007;bb001;").lies(), 1);
        BrideNotKnown z = Checks.valleyOf("bf007;g6306;w0;");
        checks.due("sent home", z.lies(), 0);
    }

    private static void promise30() {
        BrideNotKnown x = Checks.valleyOf("bf035;bb000;");
        checks.due("no numbers", x.rightly(0), 0);
        Checks.numbers(x, 0, 1, 2, 3, 4, 5);
        checks.due("0 1 5 of her foot, not of what she shows", x.rightly(0), 3);
        checks.due("none", x.rightly(1), 0);
        checks.due("the row stays", x.count(6), 6);
        Checks.numbers(x, 5, 5, 5, 2, 6, 32, 33, 37, 64, 99);
        checks.due("each number counts, no toe above 5", x.rightly(0), 3);
        checks.due("rightly(2)", x.rightly(2), -1);
        checks.due("rightly(-1)", x.rightly(-1), -1);
    }

    private static void promise31() {
        BrideNotKnown x = Checks.valleyOf("bb001;bb001;bb007;g6301;g6306;");
        checks.due("two alike rest", x.two(0, 1), 0);
        checks.due("2 does not move", x.two(2, 0), 0);
        checks.due("nothing changed", x.bride(0, 2), 1);
        checks.due("two(0, 0)", x.two(0, 0), -1);
        checks.due("two(0, 3)", x.two(0, 3), -1);
        checks.due("two(3, 0)", x.two(3, 0), -1);
        checks.due("two(-1, 0)", x.two(-1, 0), -1);
        checks.due("two(0, -1)", x.two(0, -1), -1);
        BrideNotKnown y = Checks.valleyOf("bb001;bb007;g6301;");
        checks.due("0 is known: she changes", y.two(0, 1), 10);
        checks.due("told the other way", y.two(1, 0), 1);
        BrideNotKnown z = Checks.valleyOf("bb001;bb007;g6301;g6306;");
        checks.due("both change, and 1 is known by 1", z.two(0, 1), 10);
        BrideNotKnown v = Checks.valleyOf("bb000;bb001;bb000;bb003;g0101;");
        checks.due("more guess her", v.two(0, 2), 11);
        checks.due("she is among guesses as it is", v.two(1, 3), 0);
        checks.due("one of them", v.two(0, 3), 10);
        BrideNotKnown w = Checks.valleyOf("bb000;bb001;g0101;g0101;");
        checks.due("1 hides: the first pair, not the best", w.two(0, 1), 1);
        BrideNotKnown u = Checks.valleyOf("bb000;bb000;g0100;g0101;");
        checks.due("two who are two stay", u.two(0, 1), 0);
        BrideNotKnown t = Checks.valleyOf("bb001;bb001;bb002;g6302;g0101;w0;");
        checks.due("2 is away", t.two(0, 2), -3);
        checks.due("2 is away, told first", t.two(2, 0), -3);
        checks.due("one twice is told first", t.two(2, 2), -1);
        checks.due("the others are here", t.two(0, 1), 0);
        BrideNotKnown s = Checks.valleyOf("bb000;bs000;bb001;g0101;");
        checks.due("a sister changes with her", s.two(0, 2), 10);
        BrideNotKnown m = Checks.valleyOf("bb001;bb001;g6301;w0;bb000;");
        checks.due("a married groom does not count", m.two(1, 2), 0);
    }

    /** One may want to be with the other, who wants to be alone: then nothing rests. */
    private static void promise31Restless() {
        checks.due("nothing rests", Checks.valleyOf("bb000;bt003;g0100;g0302;g0201;").two(0, 1), -9);
        checks.due("nothing rests", Checks.valleyOf("bs001;bt002;g0202;g0303;g0103;").two(0, 1), -9);
        checks.due("nothing rests", Checks.valleyOf("bb000;bt003;bb002;g0103;g0303;g0103;").two(0, 2), -9);
        String[] kinds = {"b", "s", "t", "c"};
        for (int i = 0; i < 512; i++) {
            String text = "bb00" + i % 2 + ";b" + kinds[i / 2 % 4] + "000;b" + kinds[i / 8 % 4] + "00" + i / 32 % 2
                    + ";g010" + i / 64 % 2 + ";g030" + i / 128 % 4 + ";g0203;";
            checks.due("two(0, 1) of " + text, Checks.valleyOf(text).two(0, 1), restOf(text, 0, 1));
            checks.due("two(2, 1) of " + text, Checks.valleyOf(text).two(2, 1), restOf(text, 2, 1));
        }
    }

    /** By changing toes of true brides and looking at all grooms. */
    private static int restOf(String text, int a, int b) {
        int[][][] cost = new int[2][2][2];
        for (int x = 0; x < 2; x++) {
            for (int y = 0; y < 2; y++) {
                BrideNotKnown v = Checks.valleyOf(text);
                if (x == 1) {
                    v.changes(a, 0);
                }
                if (y == 1) {
                    v.changes(b, 0);
                }
                for (int g = 0; g < v.count(1); g++) {
                    cost[x][y][0] += v.groom(g, 5) == a ? 10 : 0;
                    cost[x][y][1] += v.groom(g, 5) == b ? 10 : 0;
                    cost[x][y][0] -= v.groom(g, 4) >> a & 1;
                    cost[x][y][1] -= v.groom(g, 4) >> b & 1;
                }
            }
        }
        for (int i = 0; i < 4; i++) {
            int x = i / 2;
            int y = i % 2;
            if (cost[x][y][0] <= cost[1 - x][y][0] && cost[x][y][1] <= cost[x][1 - y][1]) {
                return 10 * x + y;
            }
        }
        return -9;
    }

    public static void main(String[] args) {
        promise25();
        promise26();
        promise27();
        promise28();
        promise29();
        promise30();
        promise31();
        promise31Restless();
        checks.end();
    }
}
