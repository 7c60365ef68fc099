/** Promises 13 to 24: years on, who is known, and what would be better. */
public final class KnownTest {
    private static final Checks checks = new Checks("KnownTest");

    private static void promise13() {
        BrideNotKnown x = Checks.valleyOf("bc207;bm363;bb009;");
        checks.due("c now", x.showsThen(0, 0), 7);
        checks.due("c in 1", x.showsThen(0, 1), 3);
        checks.due("c in 60", x.showsThen(0, 60), 7);
        checks.due("m in 59", x.showsThen(1, 59), 22);
        checks.due("b in 59", x.showsThen(2, 59), 9);
        checks.due("showsThen(3, -1)", x.showsThen(3, -1), -1);
        checks.due("showsThen(-1, 61)", x.showsThen(-1, 61), -1);
        checks.due("showsThen(0, -1)", x.showsThen(0, -1), -4);
        checks.due("showsThen(0, 61)", x.showsThen(0, 61), -6);
        x.years(1);
        checks.due("c in 1 from an odd year", x.showsThen(0, 1), 7);
        checks.due("c in 0 from an odd year", x.showsThen(0, 0), 3);
        for (int i = 0; i < 16; i++) {
            x.years(60);
        }
        x.years(38);
        checks.due("YEAR 999", x.count(2), 999);
        checks.due("in thought behind 999", x.showsThen(0, 2), 3);
        checks.due("in thought behind 999, even", x.showsThen(0, 59), 7);
    }

    private static void promises14And16() {
        BrideNotKnown x = Checks.valleyOf("bb007;bc207;bb008;g6307;g6303;g6308;g6300;l26;");
        checks.due("now two", x.groomThen(0, 0, 0), 3);
        checks.due("now none known", x.groomThen(0, 0, 1), -9);
        checks.due("in 1 one", x.groomThen(0, 1, 0), 1);
        checks.due("in 1 she is known", x.groomThen(0, 1, 1), 0);
        checks.due("in 2 two", x.groomThen(0, 2, 0), 3);
        checks.due("the other in 1", x.groomThen(1, 1, 1), 1);
        checks.due("when", x.when(0), 1);
        checks.due("when at once", x.when(2), 0);
        checks.due("when never", x.when(3), -9);
        checks.due("2 sends her for 3", x.wedding(2), 2);
        checks.due("in 2 she is away", x.groomThen(2, 2, 0), 0);
        checks.due("in 3 she is here", x.groomThen(2, 3, 0), 4);
        checks.due("in 3 she is known", x.groomThen(2, 3, 1), 2);
        checks.due("when she is back", x.when(2), 3);
        checks.due("0 marries", x.wedding(0), 100);
        checks.due("the married one stays away", x.groomThen(0, 60, 0), 2);
        checks.due("a married groom knows, too", x.when(0), 0);
        checks.due("groomThen(4, -1, 5)", x.groomThen(4, -1, 5), -1);
        checks.due("groomThen(0, -1, 5)", x.groomThen(0, -1, 5), -4);
        checks.due("groomThen(0, 61, 5)", x.groomThen(0, 61, 5), -6);
        checks.due("groomThen(0, 60, 2)", x.groomThen(0, 60, 2), -2);
        checks.due("groomThen(0, 60, -1)", x.groomThen(0, 60, -1), -2);
        checks.due("when(4)", x.when(4), -1);
        checks.due("when(-1)", x.when(-1), -1);
        BrideNotKnown y = Checks.valleyOf("bb007;g6307;l09;w0;");
        checks.due("four years", y.when(0), 4);
    }

    private static void promise15() {
        BrideNotKnown x = Checks.valleyOf("bb001;bb002;bb004;bb004;g6301;g6304;g6302;g6301;");
        checks.due("known", x.known(0), 3);
        checks.due("safe", x.known(1), 12);
        checks.due("known(2)", x.known(2), -2);
        checks.due("known(-1)", x.known(-1), -2);
        checks.due("1 marries of his guesses", x.wedding(1), 102);
        checks.due("a married groom's known one is safe", x.known(0), 3);
        checks.due("he knows her all the same", x.groom(1, 5), 3);
        checks.due("safe is who is here", x.known(1), 8);
        checks.due("0 sends his home", x.wedding(0), 0);
        checks.due("known without her", x.known(0), 2);
        checks.due("safe without her", x.known(1), 8);
    }

    private static void promises17And20() {
        BrideNotKnown x = Checks.valleyOf("bb007;bb001;bb007;bb007;g6307;g6302;g6301;l05;l13;");
        checks.due("of guesses 0 2 3 at 2", x.takes(0), 3);
        checks.due("of all at 3", x.takes(1), 3);
        checks.due("who knows takes none", x.takes(2), -9);
        checks.due("liquor for 0", x.drink(0, 0), 0);
        checks.due("liquor for 2", x.drink(0, 2), 1);
        checks.due("liquor for 3", x.drink(0, 3), 2);
        checks.due("not of his guesses", x.drink(0, 1), -9);
        checks.due("of all 1", x.drink(1, 1), 1);
        checks.due("who knows drinks for none", x.drink(2, 1), -9);
        checks.due("his liquor stays", x.groom(0, 2), 5);
        checks.due("drink(3, 0)", x.drink(3, 0), -1);
        checks.due("drink(0, 4)", x.drink(0, 4), -1);
        checks.due("drink(-1, 0)", x.drink(-1, 0), -1);
        checks.due("drink(0, -1)", x.drink(0, -1), -1);
        checks.due("takes(3)", x.takes(3), -1);
        checks.due("takes(-1)", x.takes(-1), -1);
        checks.due("he marries 3", x.wedding(0), 103);
        checks.due("a married one takes none", x.takes(0), -9);
        checks.due("nor drinks for one", x.drink(0, 0), -9);
        checks.due("a married bride is not taken", x.drink(1, 3), -9);
        BrideNotKnown y = Checks.valleyOf("bb000;g6301;g6302;w0;");
        checks.due("nobody is here", y.takes(1), -9);
        checks.due("nobody is here to drink for", y.drink(1, 0), -9);
    }

    private static void promise18() {
        BrideNotKnown x = Checks.valleyOf("bb007;bb001;bb003;g6307;g6306;g6303;g6303;l29;");
        checks.due("0 by 0: toe 0 known, toe 1 is another's", x.hide(0), 2);
        checks.due("she who is safe", x.hide(1), 0);
        checks.due("toe 0 is nobody's", x.hide(2), 1);
        checks.due("the foot stays", x.bride(0, 2), 7);
        checks.due("hide(3)", x.hide(3), -1);
        checks.due("hide(-1)", x.hide(-1), -1);
        checks.due("2 sends her home", x.wedding(2), 2);
        checks.due("not here", x.hide(2), -3);
        BrideNotKnown y = Checks.valleyOf("bb007;g0000;");
        checks.due("nothing hides her", y.hide(0), -9);
        BrideNotKnown z = Checks.valleyOf("bb005;bs060;g6305;bs005;");
        checks.due("seen with her sister nobody knows her", z.hide(0), 0);
        BrideNotKnown v = Checks.valleyOf("bb005;bs060;g0101;g0200;g6305;l01;w0;");
        checks.due("0 marries 1", v.bride(1, 5), 2);
        checks.due("no other is left: toe 1 is looked at by both", v.hide(0), 2);
        BrideNotKnown w = Checks.valleyOf("bb007;bs001;bb011;g0707;g0303;");
        checks.due("both show the same of foot 7", w.hide(0), 0);
        checks.due("a sister can not change what she shows", w.hide(1), 0);
        BrideNotKnown u = Checks.valleyOf("bb001;bs000;bb006;g6301;g6306;");
        checks.due("6 is known, toes 0, 1 and 2 make her like 0", u.hide(2), 1);
        BrideNotKnown t = Checks.valleyOf("bb004;bt001;g6305;");
        checks.due("a twin's own toe is enough", t.hide(1), 1);
        checks.due("married grooms do not count", married().hide(1), 0);
    }

    /** Groom 0 is married and knows bride 1. */
    private static BrideNotKnown married() {
        return Checks.valleyOf("bb001;bb001;bb002;g6301;w0;");
    }

    private static void promise19() {
        BrideNotKnown x = Checks.valleyOf("bb007;bb006;bb003;g6307;g0707;g0300;g0404;g6306;");
        checks.due("toe 0 of all", x.forget(0), 1);
        checks.due("toe 0 of three", x.forget(1), 1);
        checks.due("who knows none forgets none", x.forget(2), 0);
        checks.due("who guesses two", x.forget(3), 0);
        checks.due("6 by toe 0", x.forget(4), 1);
        checks.due("his looks stay", x.groom(0, 0), 63);
        checks.due("forget(5)", x.forget(5), -1);
        checks.due("forget(-1)", x.forget(-1), -1);
        x.looks(0, 6);
        x.minds(0, 2);
        checks.due("of toes 1 and 2 the first", x.groom(0, 5), 2);
        checks.due("toe 2 makes them three", x.forget(0), 4);
        BrideNotKnown y = Checks.valleyOf("bb000;g6300;g6301;");
        checks.due("the only one is always known", y.forget(0), -9);
        checks.due("who has no guess", y.forget(1), 0);
        checks.due("he marries", y.wedding(1), 100);
        checks.due("a married one", y.forget(1), -3);
        BrideNotKnown z = Checks.valleyOf("bb000;bb003;g0303;");
        checks.due("both toes", z.forget(0), 3);
    }

    private static void promise21() {
        BrideNotKnown x = Checks.valleyOf("bb001;bb002;bb003;g6301;g6302;g6303;");
        checks.due("each as well: the least", x.away(), 0);
        BrideNotKnown y = Checks.valleyOf("bb000;bb001;bb002;g0301;g0302;");
        checks.due("the first known", y.away(), 1);
        BrideNotKnown z = Checks.valleyOf("bb001;bb001;g6301;");
        checks.due("none known now", z.away(), -9);
        BrideNotKnown v = Checks.valleyOf("bb001;bb003;bb002;g6301;g0302;g0203;");
        checks.due("who makes fewest", v.known(0), 5);
        checks.due("2 away makes 1 known", v.away(), 0);
        BrideNotKnown w = Checks.valleyOf("bb001;bb003;g6301;g0203;g6303;g6301;");
        checks.due("both known", w.known(0), 3);
        checks.due("one less", w.away(), 0);
        BrideNotKnown u = Checks.valleyOf("bb001;bb003;g0101;g0203;g0203;");
        checks.due("1 is known by toe 1", u.known(0), 2);
        checks.due("0 away leaves as many, 1 away makes 0 known", u.away(), -9);
        checks.due("nothing changed", u.count(3), 3);
        checks.due("nobody", new BrideNotKnown().away(), -9);
        BrideNotKnown t = Checks.valleyOf("bb001;bb002;bb004;g6301;g6302;g0400;g0404;w0;");
        checks.due("one is away", t.known(0), 6);
        checks.due("not 0, she is away", t.away(), 1);
    }

    private static void promise22() {
        BrideNotKnown x = Checks.valleyOf("bb001;bb002;bb003;g6301;g6302;g6303;");
        checks.due("all three", x.pairs(-1), 3);
        checks.due("0 has 1", x.pairs(0), 1);
        checks.due("1 has 2, or 2 would know his", x.pairs(1), 2);
        checks.due("2 has 0", x.pairs(2), 0);
        checks.due("pairs(3)", x.pairs(3), -1);
        checks.due("pairs(-2)", x.pairs(-2), -1);
        BrideNotKnown y = Checks.valleyOf("bb000;g6300;g6301;");
        checks.due("one", y.pairs(-1), 1);
        checks.due("0 has nobody", y.pairs(0), -9);
        checks.due("1 has her", y.pairs(1), 0);
        BrideNotKnown z = Checks.valleyOf("bb000;bb001;g6302;g6302;g6302;w0;");
        checks.due("0 is married, one is left", z.pairs(-1), 1);
        BrideNotKnown v = Checks.valleyOf("bb000;bb001;bb002;g6305;g6305;g6305;w0;");
        checks.due("two are left", v.pairs(-1), 2);
        checks.due("a married one has nobody", v.pairs(0), -9);
        checks.due("1 has 1", v.pairs(1), 1);
        checks.due("2 has 2", v.pairs(2), 2);
        BrideNotKnown w = Checks.valleyOf("bb001;bb002;g6305;g6305;g6305;");
        checks.due("more grooms: the last has nobody", w.pairs(2), -9);
        checks.due("two by two", w.pairs(-1), 2);
        checks.due("none", new BrideNotKnown().pairs(-1), 0);
    }

    private static void promises23And24() {
        BrideNotKnown x = Checks.valleyOf("bf007;bb056;bs008;g6307;g6356;g6363;g0156;");
        checks.due("0 by her own foot", x.meant(0, 0), 0);
        checks.due("no toe otherwise", x.meant(0, 1), 0);
        checks.due("1", x.meant(1, 0), 1);
        checks.due("of two as near the least", x.meant(2, 0), 0);
        checks.due("3 toes", x.meant(2, 1), 3);
        checks.due("in all toes of his mind", x.meant(3, 0), 1);
        checks.due("meant(4, 2)", x.meant(4, 2), -1);
        checks.due("meant(-1, 0)", x.meant(-1, 0), -1);
        checks.due("meant(0, 2)", x.meant(0, 2), -2);
        checks.due("meant(0, -1)", x.meant(0, -1), -2);
        BrideNotKnown far = Checks.valleyOf("bb000;g6363;");
        checks.due("no toe as in his mind", far.meant(0, 0), 0);
        checks.due("6 toes", far.meant(0, 1), 6);
        BrideNotKnown y = Checks.valleyOf("g6307;");
        checks.due("nobody is meant", y.meant(0, 0), -9);
        checks.due("nor a toe", y.meant(0, 1), -9);
        checks.due("and none loses", y.loses(), 0);
        BrideNotKnown z = Checks.valleyOf("bb001;bb002;bs004;g6301;g6304;g0204;g6302;l02;");
        checks.due("0 and 2 lose", z.groom(0, 5), 0);
        checks.due("1 knows none", z.groom(1, 5), -9);
        checks.due("two show 2", z.groom(3, 4), 6);
        checks.due("only 0", z.loses(), 1);
        checks.due("he sends her home", z.wedding(0), 0);
        checks.due("who is not here is not known", z.loses(), 0);
        checks.due("but meant", z.meant(0, 0), 0);
        BrideNotKnown v = Checks.valleyOf("bb001;bf002;bb004;g6303;g6304;");
        checks.due("1 shows 3, 0 is meant", v.groom(0, 5), 1);
        checks.due("the least of as near ones", v.meant(0, 0), 0);
        checks.due("so 0 does not lose his", v.loses(), 2);
        BrideNotKnown w = Checks.valleyOf("bb001;bb001;g6300;w0;g0001;");
        checks.due("a married one who knows", w.groom(1, 5), 1);
        checks.due("another was meant", w.loses(), 0);
        BrideNotKnown u = Checks.valleyOf("bb007;bb001;g6302;l00;w0;");
        u.minds(0, 1);
        checks.due("he is married", u.groom(0, 3), 1);
        checks.due("and loses as all grooms", u.loses(), 1);
    }

    /** A year on, bride 0 shows otherwise and bride 2 is back: none of that is so now. */
    private static void allIsAsNow() {
        BrideNotKnown x = Checks.valleyOf("bc007;bb006;bb001;g6301;g6307;g6307;w0;");
        checks.due("here", x.count(3), 3);
        checks.due("0 guesses none", x.groom(0, 4), 0);
        checks.due("1 guesses 0", x.groom(1, 4), 1);
        checks.due("known", x.known(0), 1);
        checks.due("safe", x.known(1), 2);
        checks.due("0 takes of all", x.takes(0), 0);
        checks.due("1 knows", x.takes(1), -9);
        checks.due("1 is to forget toe 0", x.forget(1), 1);
        checks.due("two pairs", x.pairs(-1), 2);
        checks.due("2 has nobody", x.pairs(2), -9);
        Checks.numbers(x, 0, 1, 1);
        checks.due("judged", x.judge(), -9);
        BrideNotKnown y = Checks.valleyOf("bc007;bb006;g6307;g6307;");
        checks.due("both know 0", y.pairs(-1), 1);
        checks.due("0 has 1", y.pairs(0), 1);
        checks.due("toe 0 hides her", y.hide(0), 1);
        checks.due("0 knows her", y.when(0), 0);
    }

    /** What README.md shows. */
    private static void readme() {
        BrideNotKnown x = new BrideNotKnown();
        checks.due("valley()", Checks.told(x, "bb007;bf207;g6307;"), 3);
        checks.due("known(0)", x.known(0), 1);
        checks.due("hide(0)", x.hide(0), 1);
        checks.due("wedding(0)", x.wedding(0), 0);
    }

    public static void main(String[] args) {
        readme();
        allIsAsNow();
        promise13();
        promises14And16();
        promise15();
        promises17And20();
        promise18();
        promise19();
        promise21();
        promise22();
        promises23And24();
        checks.end();
    }
}
