import java.util.function.Supplier;
import java.util.function.ToLongFunction;

/**
 * Terms, REFUSALS: for each call of promises 2 to 41 what it refuses, on both sides of each bound;
 * where two refusals could be due, which comes first; and that a refused call changes nothing but
 * how many there were. Calls at the last value that is allowed stand beside those that are refused.
 */
public final class RefusalsTest {
    private static final int LEAST = Integer.MIN_VALUE;
    private static final int MOST = Integer.MAX_VALUE;
    private static final long NOBODY = 4000000000000000001L;
    private static final long OTHER = 4000000000000000002L;
    private static final long BELOW = 4000000000000000004L;
    private static final long ROOM = 4000000000000000006L;

    private static final Checks checks = new Checks("RefusalsTest");
    private static final Twins twins = new Twins(checks);

    /**
     * YEAR 2. BRIDE 0 (b, foot 1) HERE, 1 (s, foot 2) MARRIED, 2 (c, figure 3, foot 10) SENT home for
     * 1 more, 3 (m, figure 9, foot 63) HERE. GROOM 0 LOOKS 63, MIND 2, LIQUOR 4; GROOM 1 LOOKS 0,
     * LIQUOR 3, MARRIED; GROOM 2 LOOKS 35, MIND 12. A ROW of three, three letters, an IMAGE of YEAR 1.
     */
    private static BrideNotKnown base() {
        BrideNotKnown x = Checks.valleyOf("y01;bb001;bs702;bc310;bm963;g6302;l05;g0000;l14;g3512;w0;w1;");
        x.image();
        x.years(1);
        Checks.numbers(x, 5, 0, 99);
        Checks.letters(x, "bb0");
        return x;
    }

    /** As base, but with 96 letters: a BRIDE more, 22 changes of a TOE, and the half of another. */
    private static BrideNotKnown fullOfLetters() {
        BrideNotKnown x = base();
        Checks.letters(x, "00;");
        for (int i = 0; i < 22; i++) {
            Checks.letters(x, "t00;");
        }
        Checks.letters(x, "t0");
        return x;
    }

    /** As base, but with 16 numbers in the ROW. */
    private static BrideNotKnown fullRow() {
        BrideNotKnown x = base();
        Checks.numbers(x, 1, 2, 3, 4, 5, 6, 7, 8, 9, 10, 11, 12, 13, 14, 15, 16);
        return x;
    }

    private static BrideNotKnown atYear(int year) {
        BrideNotKnown x = base();
        for (int left = year - 2; left > 0; left -= 60) {
            x.years(Math.min(60, left));
        }
        return x;
    }

    /** GROOM 0 UNMARRIED, with BRIDE 0 SENT home, 1 MARRIED. */
    private static BrideNotKnown nobodyHere() {
        return Checks.valleyOf("bb000;bb000;g0000;g0000;g6301;w0;w1;");
    }

    private static BrideNotKnown fullHouse() {
        return Checks.valleyOf("bb000;bb000;bb000;bb000;bb000;bb000;bb000;bb000;g0000;g0000;g0000;g0000;g0000;");
    }

    private static void no(String call, ToLongFunction<BrideNotKnown> asked, long want) {
        twins.refused(call, RefusalsTest::base, asked, want);
    }

    private static void no(String call, Supplier<BrideNotKnown> made, ToLongFunction<BrideNotKnown> asked, long want) {
        twins.refused(call, made, asked, want);
    }

    private static void yes(String call, ToLongFunction<BrideNotKnown> asked, long want) {
        twins.allowed(call, RefusalsTest::base, asked, want);
    }

    private static void yes(String call, Supplier<BrideNotKnown> made, ToLongFunction<BrideNotKnown> asked, long want) {
        twins.allowed(call, made, asked, want);
    }

    private static void promise2() {
        yes("letter(0)", x -> x.letter(0), 4);
        yes("letter(255)", x -> x.letter(255), 4);
        no("letter(-1)", x -> x.letter(-1), -4);
        no("letter(MIN)", x -> x.letter(LEAST), -4);
        no("letter(256)", x -> x.letter(256), -6);
        no("letter(MAX)", x -> x.letter(MOST), -6);
        no("a 97th letter", RefusalsTest::fullOfLetters, x -> x.letter(';'), -6);
        no("a 97th letter 0", RefusalsTest::fullOfLetters, x -> x.letter(0), -6);
        no("a 97th letter 256: once", RefusalsTest::fullOfLetters, x -> x.letter(256), -6);
        no("a 97th letter -1: -4 before -6", RefusalsTest::fullOfLetters, x -> x.letter(-1), -4);
    }

    /** A FAULT of either kind is no refusal. */
    private static void promise3() {
        yes("valley() of bb0", x -> x.valley(), -1003);
        yes("valley() of bb064;", x -> Checks.told(x, "64;"), -2000);
        yes("valley() of none", BrideNotKnown::new, x -> x.valley(), -1000);
    }

    private static void promise4() {
        yes("bride(0, 0)", x -> x.bride(0, 0), 0);
        yes("bride(3, 5)", x -> x.bride(3, 5), 0);
        no("bride(4, 0)", x -> x.bride(4, 0), -1);
        no("bride(-1, 0)", x -> x.bride(-1, 0), -1);
        no("bride(MIN, 0)", x -> x.bride(LEAST, 0), -1);
        no("bride(MAX, 5)", x -> x.bride(MOST, 5), -1);
        no("bride(0, 6)", x -> x.bride(0, 6), -2);
        no("bride(0, -1)", x -> x.bride(0, -1), -2);
        no("bride(0, MAX)", x -> x.bride(0, MOST), -2);
        no("bride(4, 6): -1 before -2", x -> x.bride(4, 6), -1);
        yes("bride(7, 0) of 8", RefusalsTest::fullHouse, x -> x.bride(7, 0), 0);
        no("bride(8, 0) of 8", RefusalsTest::fullHouse, x -> x.bride(8, 0), -1);
        no("bride(0, 0) of none", BrideNotKnown::new, x -> x.bride(0, 0), -1);
    }

    private static void promise5() {
        yes("groom(0, 0)", x -> x.groom(0, 0), 63);
        yes("groom(2, 5)", x -> x.groom(2, 5), -9);
        no("groom(3, 0)", x -> x.groom(3, 0), -1);
        no("groom(-1, 0)", x -> x.groom(-1, 0), -1);
        no("groom(MIN, 0)", x -> x.groom(LEAST, 0), -1);
        no("groom(MAX, 5)", x -> x.groom(MOST, 5), -1);
        no("groom(0, 6)", x -> x.groom(0, 6), -2);
        no("groom(0, -1)", x -> x.groom(0, -1), -2);
        no("groom(0, MIN)", x -> x.groom(0, LEAST), -2);
        no("groom(3, 6): -1 before -2", x -> x.groom(3, 6), -1);
        yes("groom(4, 0) of 5", RefusalsTest::fullHouse, x -> x.groom(4, 0), 0);
        no("groom(5, 0) of 5", RefusalsTest::fullHouse, x -> x.groom(5, 0), -1);
        no("groom(0, 0) of none", BrideNotKnown::new, x -> x.groom(0, 0), -1);
    }

    private static void promise6() {
        yes("wedding(0)", x -> x.wedding(0), 100);
        yes("wedding(2)", x -> x.wedding(2), 100);
        no("wedding(3)", x -> x.wedding(3), -1);
        no("wedding(-1)", x -> x.wedding(-1), -1);
        no("wedding(MAX)", x -> x.wedding(MOST), -1);
        no("wedding(1): he is MARRIED", x -> x.wedding(1), -3);
        no("wedding(2): nobody is HERE", RefusalsTest::nobodyHere, x -> x.wedding(2), -3);
        no("wedding(0): MARRIED, nobody HERE", RefusalsTest::nobodyHere, x -> x.wedding(0), -3);
        no("wedding(3), nobody HERE: -1 before -3", RefusalsTest::nobodyHere, x -> x.wedding(3), -1);
        no("wedding(0) without a BRIDE", () -> Checks.valleyOf("g0000;"), x -> x.wedding(0), -3);
    }

    private static void promise7() {
        yes("changes(0, 0)", x -> x.changes(0, 0), 0);
        yes("changes(3, 5)", x -> x.changes(3, 5), 31);
        no("changes(4, 0)", x -> x.changes(4, 0), -1);
        no("changes(-1, 0)", x -> x.changes(-1, 0), -1);
        no("changes(0, 6)", x -> x.changes(0, 6), -1);
        no("changes(0, -1)", x -> x.changes(0, -1), -1);
        no("changes(0, 32)", x -> x.changes(0, 32), -1);
        no("changes(0, MIN)", x -> x.changes(0, LEAST), -1);
        no("changes(4, 6): once", x -> x.changes(4, 6), -1);
    }

    private static void promises8To10() {
        yes("looks(0, 0)", x -> x.looks(0, 0), 63);
        yes("looks(2, 63)", x -> x.looks(2, 63), 35);
        no("looks(3, 0)", x -> x.looks(3, 0), -1);
        no("looks(-1, 0)", x -> x.looks(-1, 0), -1);
        no("looks(0, -1)", x -> x.looks(0, -1), -4);
        no("looks(0, MIN)", x -> x.looks(0, LEAST), -4);
        no("looks(0, 64)", x -> x.looks(0, 64), -6);
        no("looks(0, MAX)", x -> x.looks(0, MOST), -6);
        no("looks(3, -1): -1 before -4", x -> x.looks(3, -1), -1);
        no("looks(3, 64): -1 before -6", x -> x.looks(3, 64), -1);
        yes("minds(0, 0)", x -> x.minds(0, 0), 2);
        yes("minds(2, 63)", x -> x.minds(2, 63), 12);
        no("minds(3, 0)", x -> x.minds(3, 0), -1);
        no("minds(-1, 0)", x -> x.minds(-1, 0), -1);
        no("minds(0, -1)", x -> x.minds(0, -1), -4);
        no("minds(0, MIN)", x -> x.minds(0, LEAST), -4);
        no("minds(0, 64)", x -> x.minds(0, 64), -6);
        no("minds(0, MAX)", x -> x.minds(0, MOST), -6);
        no("minds(3, -1): -1 before -4", x -> x.minds(3, -1), -1);
        no("minds(3, 64): -1 before -6", x -> x.minds(3, 64), -1);
        yes("drinks(0, 0)", x -> x.drinks(0, 0), 4);
        yes("drinks(2, 9)", x -> x.drinks(2, 9), 0);
        no("drinks(3, 0)", x -> x.drinks(3, 0), -1);
        no("drinks(-1, 0)", x -> x.drinks(-1, 0), -1);
        no("drinks(0, -1)", x -> x.drinks(0, -1), -4);
        no("drinks(0, MIN)", x -> x.drinks(0, LEAST), -4);
        no("drinks(0, 10)", x -> x.drinks(0, 10), -6);
        no("drinks(0, MAX)", x -> x.drinks(0, MOST), -6);
        no("drinks(3, -1): -1 before -4", x -> x.drinks(3, -1), -1);
        no("drinks(3, 10): -1 before -6", x -> x.drinks(3, 10), -1);
    }

    private static void promise11() {
        yes("turn(0, 0, 0)", x -> x.turn(0, 0, 0), 0);
        yes("turn(3, 5, 9)", x -> x.turn(3, 5, 9), 59);
        no("turn(4, 0, 0)", x -> x.turn(4, 0, 0), -1);
        no("turn(-1, 0, 0)", x -> x.turn(-1, 0, 0), -1);
        no("turn(0, 6, 0)", x -> x.turn(0, 6, 0), -2);
        no("turn(0, -1, 0)", x -> x.turn(0, -1, 0), -2);
        no("turn(0, 1, -1)", x -> x.turn(0, 1, -1), -4);
        no("turn(0, 1, MIN)", x -> x.turn(0, 1, LEAST), -4);
        no("turn(0, 1, 10)", x -> x.turn(0, 1, 10), -6);
        no("turn(0, 1, MAX)", x -> x.turn(0, 1, MOST), -6);
        no("turn(4, 6, 0): -1 before -2", x -> x.turn(4, 6, 0), -1);
        no("turn(4, 0, -1): -1 before -4", x -> x.turn(4, 0, -1), -1);
        no("turn(4, 0, 10): -1 before -6", x -> x.turn(4, 0, 10), -1);
        no("turn(0, 6, -1): -2 before -4", x -> x.turn(0, 6, -1), -2);
        no("turn(0, -1, 10): -2 before -6", x -> x.turn(0, -1, 10), -2);
    }

    private static void promise12() {
        yes("years(1)", x -> x.years(1), 3);
        yes("years(60)", x -> x.years(60), 3);
        yes("years(1) of 8", RefusalsTest::fullHouse, x -> x.years(1), 8);
        yes("years(60) of none", BrideNotKnown::new, x -> x.years(60), 0);
        no("years(0)", x -> x.years(0), -4);
        no("years(-1)", x -> x.years(-1), -4);
        no("years(MIN)", x -> x.years(LEAST), -4);
        no("years(61)", x -> x.years(61), -6);
        no("years(MAX)", x -> x.years(MOST), -6);
        yes("years(60) at 939", () -> atYear(939), x -> x.years(60), 3);
        no("years(60) at 940", () -> atYear(940), x -> x.years(60), -6);
        yes("years(59) at 940", () -> atYear(940), x -> x.years(59), 3);
        yes("years(1) at 998", () -> atYear(998), x -> x.years(1), 3);
        no("years(2) at 998", () -> atYear(998), x -> x.years(2), -6);
        no("years(1) at 999", () -> atYear(999), x -> x.years(1), -6);
        no("years(61) at 999: once", () -> atYear(999), x -> x.years(61), -6);
        no("years(0) at 999: -4 before -6", () -> atYear(999), x -> x.years(0), -4);
    }

    private static void promises13And14() {
        yes("showsThen(0, 0)", x -> x.showsThen(0, 0), 1);
        yes("showsThen(3, 60)", x -> x.showsThen(3, 60), 30);
        no("showsThen(4, 0)", x -> x.showsThen(4, 0), -1);
        no("showsThen(-1, 0)", x -> x.showsThen(-1, 0), -1);
        no("showsThen(0, -1)", x -> x.showsThen(0, -1), -4);
        no("showsThen(0, MIN)", x -> x.showsThen(0, LEAST), -4);
        no("showsThen(0, 61)", x -> x.showsThen(0, 61), -6);
        no("showsThen(0, MAX)", x -> x.showsThen(0, MOST), -6);
        no("showsThen(4, -1): -1 before -4", x -> x.showsThen(4, -1), -1);
        no("showsThen(4, 61): -1 before -6", x -> x.showsThen(4, 61), -1);
        yes("groomThen(0, 0, 0)", x -> x.groomThen(0, 0, 0), 0);
        yes("groomThen(2, 60, 1)", x -> x.groomThen(2, 60, 1), -9);
        no("groomThen(3, 0, 0)", x -> x.groomThen(3, 0, 0), -1);
        no("groomThen(-1, 0, 0)", x -> x.groomThen(-1, 0, 0), -1);
        no("groomThen(0, -1, 0)", x -> x.groomThen(0, -1, 0), -4);
        no("groomThen(0, MIN, 0)", x -> x.groomThen(0, LEAST, 0), -4);
        no("groomThen(0, 61, 0)", x -> x.groomThen(0, 61, 0), -6);
        no("groomThen(0, MAX, 1)", x -> x.groomThen(0, MOST, 1), -6);
        no("groomThen(0, 0, 2)", x -> x.groomThen(0, 0, 2), -2);
        no("groomThen(0, 0, -1)", x -> x.groomThen(0, 0, -1), -2);
        no("groomThen(3, -1, 0): -1 before -4", x -> x.groomThen(3, -1, 0), -1);
        no("groomThen(3, 61, 0): -1 before -6", x -> x.groomThen(3, 61, 0), -1);
        no("groomThen(3, 0, 2): -1 before -2", x -> x.groomThen(3, 0, 2), -1);
        no("groomThen(0, -1, 2): -4 before -2", x -> x.groomThen(0, -1, 2), -4);
        no("groomThen(0, 61, 2): -6 before -2", x -> x.groomThen(0, 61, 2), -6);
    }

    private static void promises15To17() {
        yes("known(0)", x -> x.known(0), 0);
        yes("known(1)", x -> x.known(1), 9);
        no("known(2)", x -> x.known(2), -2);
        no("known(-1)", x -> x.known(-1), -2);
        no("known(MAX)", x -> x.known(MOST), -2);
        yes("when(0)", x -> x.when(0), 1);
        yes("when(2): -9 is no refusal", x -> x.when(2), -9);
        no("when(3)", x -> x.when(3), -1);
        no("when(-1)", x -> x.when(-1), -1);
        no("when(MIN)", x -> x.when(LEAST), -1);
        yes("takes(0)", x -> x.takes(0), 0);
        yes("takes(1): MARRIED, -9 is no refusal", x -> x.takes(1), -9);
        no("takes(3)", x -> x.takes(3), -1);
        no("takes(-1)", x -> x.takes(-1), -1);
        no("takes(MAX)", x -> x.takes(MOST), -1);
    }

    private static void promises18To20() {
        yes("hide(0)", x -> x.hide(0), 0);
        yes("hide(3)", x -> x.hide(3), 0);
        no("hide(4)", x -> x.hide(4), -1);
        no("hide(-1)", x -> x.hide(-1), -1);
        no("hide(MIN)", x -> x.hide(LEAST), -1);
        no("hide(2): she is SENT home", x -> x.hide(2), -3);
        no("hide(1): she is MARRIED", x -> x.hide(1), -3);
        yes("forget(0)", x -> x.forget(0), 0);
        yes("forget(2)", x -> x.forget(2), 0);
        no("forget(3)", x -> x.forget(3), -1);
        no("forget(-1)", x -> x.forget(-1), -1);
        no("forget(MAX)", x -> x.forget(MOST), -1);
        no("forget(1): he is MARRIED", x -> x.forget(1), -3);
        yes("drink(0, 0)", x -> x.drink(0, 0), 0);
        yes("drink(2, 3)", x -> x.drink(2, 3), 1);
        yes("drink(1, 0): MARRIED, -9 is no refusal", x -> x.drink(1, 0), -9);
        no("drink(3, 0)", x -> x.drink(3, 0), -1);
        no("drink(-1, 0)", x -> x.drink(-1, 0), -1);
        no("drink(0, 4)", x -> x.drink(0, 4), -1);
        no("drink(0, -1)", x -> x.drink(0, -1), -1);
        no("drink(3, 4): once", x -> x.drink(3, 4), -1);
    }

    private static void promises22And23() {
        yes("pairs(-1)", x -> x.pairs(-1), 2);
        yes("pairs(0)", x -> x.pairs(0), 0);
        yes("pairs(1): MARRIED, -9 is no refusal", x -> x.pairs(1), -9);
        yes("pairs(2)", x -> x.pairs(2), 3);
        no("pairs(3)", x -> x.pairs(3), -1);
        no("pairs(-2)", x -> x.pairs(-2), -1);
        no("pairs(MIN)", x -> x.pairs(LEAST), -1);
        no("pairs(MAX)", x -> x.pairs(MOST), -1);
        no("pairs(0) of none", BrideNotKnown::new, x -> x.pairs(0), -1);
        yes("pairs(-1) of none", BrideNotKnown::new, x -> x.pairs(-1), 0);
        yes("meant(0, 0)", x -> x.meant(0, 0), 1);
        yes("meant(2, 1)", x -> x.meant(2, 1), 2);
        no("meant(3, 0)", x -> x.meant(3, 0), -1);
        no("meant(-1, 0)", x -> x.meant(-1, 0), -1);
        no("meant(0, 2)", x -> x.meant(0, 2), -2);
        no("meant(0, -1)", x -> x.meant(0, -1), -2);
        no("meant(3, 2): -1 before -2", x -> x.meant(3, 2), -1);
    }

    private static void promises25To31() {
        yes("alike(0)", x -> x.alike(0), 0);
        yes("alike(3)", x -> x.alike(3), 1);
        no("alike(4)", x -> x.alike(4), -2);
        no("alike(-1)", x -> x.alike(-1), -2);
        no("alike(MAX)", x -> x.alike(MOST), -2);
        yes("order(0)", x -> x.order(0), 2);
        yes("order(1)", x -> x.order(1), 0);
        no("order(2)", x -> x.order(2), -2);
        no("order(-1)", x -> x.order(-1), -2);
        no("order(MIN)", x -> x.order(LEAST), -2);
        yes("rightly(0)", x -> x.rightly(0), 1);
        yes("rightly(3)", x -> x.rightly(3), 2);
        no("rightly(4)", x -> x.rightly(4), -1);
        no("rightly(-1)", x -> x.rightly(-1), -1);
        no("rightly(MAX)", x -> x.rightly(MOST), -1);
        yes("two(0, 3)", x -> x.two(0, 3), 0);
        yes("two(3, 0)", x -> x.two(3, 0), 0);
        no("two(4, 0)", x -> x.two(4, 0), -1);
        no("two(-1, 0)", x -> x.two(-1, 0), -1);
        no("two(0, 4)", x -> x.two(0, 4), -1);
        no("two(0, -1)", x -> x.two(0, -1), -1);
        no("two(4, 5): once", x -> x.two(4, 5), -1);
        no("two(3, 3): one twice", x -> x.two(3, 3), -1);
        no("two(2, 0): the first is SENT home", x -> x.two(2, 0), -3);
        no("two(0, 2): the other is SENT home", x -> x.two(0, 2), -3);
        no("two(1, 0): the first is MARRIED", x -> x.two(1, 0), -3);
        no("two(0, 1): the other is MARRIED", x -> x.two(0, 1), -3);
        no("two(1, 2): once", x -> x.two(1, 2), -3);
        no("two(2, 2): -1 before -3", x -> x.two(2, 2), -1);
        no("two(2, 4): -1 before -3", x -> x.two(2, 4), -1);
        no("two(4, 1): -1 before -3", x -> x.two(4, 1), -1);
    }

    private static void promises32And33() {
        yes("chance(0, 0, 0)", x -> x.chance(0, 0, 0), 0);
        yes("chance(3, 4, 1)", x -> x.chance(3, 4, 1), 4);
        no("chance(4, 0, 0)", x -> x.chance(4, 0, 0), NOBODY);
        no("chance(-1, 0, 0)", x -> x.chance(-1, 0, 0), NOBODY);
        no("chance(0, -1, 0)", x -> x.chance(0, -1, 0), BELOW);
        no("chance(0, MIN, 0)", x -> x.chance(0, LEAST, 0), BELOW);
        no("chance(0, 5, 0)", x -> x.chance(0, 5, 0), ROOM);
        no("chance(0, MAX, 1)", x -> x.chance(0, MOST, 1), ROOM);
        no("chance(0, 0, 2)", x -> x.chance(0, 0, 2), OTHER);
        no("chance(0, 0, -1)", x -> x.chance(0, 0, -1), OTHER);
        no("chance(4, -1, 0): -1 before -4", x -> x.chance(4, -1, 0), NOBODY);
        no("chance(4, 5, 0): -1 before -6", x -> x.chance(4, 5, 0), NOBODY);
        no("chance(4, 0, 2): -1 before -2", x -> x.chance(4, 0, 2), NOBODY);
        no("chance(0, -1, 2): -4 before -2", x -> x.chance(0, -1, 2), BELOW);
        no("chance(0, 5, 2): -6 before -2", x -> x.chance(0, 5, 2), ROOM);
        yes("mean(0)", x -> x.mean(0), 5);
        yes("mean(1)", x -> x.mean(1), 2);
        no("mean(2)", x -> x.mean(2), OTHER);
        no("mean(-1)", x -> x.mean(-1), OTHER);
        no("mean(MAX)", x -> x.mean(MOST), OTHER);
        no("mean(2) of none", BrideNotKnown::new, x -> x.mean(2), OTHER);
    }

    private static void promises34And35() {
        yes("whatIs(0, 0)", x -> x.whatIs(0, 0), 0);
        yes("whatIs(3, 1)", x -> x.whatIs(3, 1), 0);
        no("whatIs(4, 0)", x -> x.whatIs(4, 0), -1);
        no("whatIs(-1, 0)", x -> x.whatIs(-1, 0), -1);
        no("whatIs(0, 2)", x -> x.whatIs(0, 2), -2);
        no("whatIs(0, -1)", x -> x.whatIs(0, -1), -2);
        no("whatIs(4, 2): -1 before -2", x -> x.whatIs(4, 2), -1);
        yes("row(0)", x -> x.row(0), 4);
        yes("row(99)", x -> x.row(99), 4);
        no("row(-1)", x -> x.row(-1), -4);
        no("row(MIN)", x -> x.row(LEAST), -4);
        no("row(100)", x -> x.row(100), -6);
        no("row(MAX)", x -> x.row(MOST), -6);
        no("a 17th number", RefusalsTest::fullRow, x -> x.row(0), -6);
        no("a 17th number 99", RefusalsTest::fullRow, x -> x.row(99), -6);
        no("a 17th number 100: once", RefusalsTest::fullRow, x -> x.row(100), -6);
        no("a 17th number -1: -4 before -6", RefusalsTest::fullRow, x -> x.row(-1), -4);
    }

    /** From nobody HERE there is no WEDDING, whatever is drawn. */
    private static void promise38() {
        yes("lots(1, 0, 0)", RefusalsTest::nobodyHere, x -> x.lots(1, 0, 0), 0);
        yes("lots(20, MIN, 1)", RefusalsTest::nobodyHere, x -> x.lots(20, LEAST, 1), 0);
        yes("lots(20, MAX, 1)", RefusalsTest::nobodyHere, x -> x.lots(20, MOST, 1), 0);
        no("lots(0, 0, 0)", x -> x.lots(0, 0, 0), -4);
        no("lots(-1, 0, 0)", x -> x.lots(-1, 0, 0), -4);
        no("lots(MIN, 0, 0)", x -> x.lots(LEAST, 0, 0), -4);
        no("lots(21, 0, 0)", x -> x.lots(21, 0, 0), -6);
        no("lots(MAX, 0, 0)", x -> x.lots(MOST, 0, 0), -6);
        no("lots(1, 0, 2)", x -> x.lots(1, 0, 2), -2);
        no("lots(20, 0, -1)", x -> x.lots(20, 0, -1), -2);
        no("lots(0, 0, 2): -4 before -2", x -> x.lots(0, 0, 2), -4);
        no("lots(21, 0, 2): -6 before -2", x -> x.lots(21, 0, 2), -6);
    }

    private static void promises40And41() {
        no("on() without an IMAGE", BrideNotKnown::new, x -> x.on(), -3);
        no("on() without an IMAGE, with all else", RefusalsTest::nobodyHere, x -> x.on(), -3);
        yes("on()", x -> x.on(), 1);
        int[] others = {LEAST, -16, -1, 8, 9, 10, 17, 18, MOST};
        for (int what : others) {
            yes("count(" + what + ") is no refusal", x -> x.count(what), -9);
        }
        yes("count(0)", x -> x.count(0), 4);
        yes("count(7)", x -> x.count(7), 3);
        yes("count(11)", x -> x.count(11), 0);
        yes("count(16)", x -> x.count(16), 0);
    }

    /** Each refusal is counted for itself, of longs too; -5 there is none. */
    private static void counts() {
        BrideNotKnown x = base();
        x.bride(4, 0);
        x.chance(4, 0, 0);
        x.known(2);
        x.mean(2);
        x.chance(0, 0, 2);
        x.wedding(1);
        x.years(0);
        x.chance(0, -1, 0);
        x.row(-1);
        x.drinks(0, -1);
        x.years(61);
        x.chance(0, 5, 0);
        x.letter(256);
        x.row(100);
        x.lots(21, 0, 0);
        int[] due = {2, 3, 1, 4, 0, 5};
        for (int i = 0; i < 6; i++) {
            checks.due("count(" + (11 + i) + ")", x.count(11 + i), due[i]);
        }
    }

    public static void main(String[] args) {
        promise2();
        promise3();
        promise4();
        promise5();
        promise6();
        promise7();
        promises8To10();
        promise11();
        promise12();
        promises13And14();
        promises15To17();
        promises18To20();
        promises22And23();
        promises25To31();
        promises32And33();
        promises34And35();
        promise38();
        promises40And41();
        counts();
        checks.end();
    }
}
