import java.util.List;
import java.util.function.Consumer;
import java.util.function.Supplier;

/**
 * "In mind", "were his WEDDING now", "SENT home now", "in thought", "it stays": calls that only ask
 * leave all as it was, the ROW, letters and the IMAGE, too. Each is made on one of two objects made alike.
 */
public final class AsksTest {
    private static final Checks checks = new Checks("AsksTest");

    /** Many are KNOWN, some SENT home, one MARRIED; numbers, letters and an IMAGE are there. */
    private static BrideNotKnown told(String text) {
        BrideNotKnown x = Checks.valleyOf(text);
        x.image();
        Checks.told(x, "y01;");
        Checks.numbers(x, 1, 0, 1);
        Checks.letters(x, "bb0");
        return x;
    }

    private static void changesNothing(String call, Consumer<BrideNotKnown> asks) {
        String[] texts = {"y01;bb001;bs702;bc310;bm963;g6302;l05;g0000;l14;g3512;w0;w1;",
            "bb000;bb001;bc003;bf007;bt012;bm063;g6300;g6301;g0302;g0001;", "bc000;g0000;l09;w0;",
            "bb000;bb001;bb002;bb003;g0100;g0200;g6303;l19;", "g6363;g0000;l19;", "bb000;bf000;"};
        for (String text : texts) {
            Supplier<BrideNotKnown> made = () -> told(text);
            BrideNotKnown x = made.get();
            asks.accept(x);
            List<String> got = Twins.traceOf(x);
            checks.same(call + " of " + text, got, Twins.traceOf(made.get()));
        }
    }

    private static void forBrides(String call, Call asks) {
        changesNothing(call, x -> {
            int brides = x.count(0);
            for (int b = 0; b < brides; b++) {
                asks.of(x, b);
            }
        });
    }

    private static void forGrooms(String call, Call asks) {
        changesNothing(call, x -> {
            int grooms = x.count(1);
            for (int g = 0; g < grooms; g++) {
                asks.of(x, g);
            }
        });
    }

    private interface Call {
        void of(BrideNotKnown x, int who);
    }

    private static void forEither(String call, Call asks) {
        changesNothing(call, x -> {
            asks.of(x, 0);
            asks.of(x, 1);
        });
    }

    private static void ofOne() {
        forBrides("showsThen", (x, b) -> x.showsThen(b, 1));
        forBrides("showsThen in 60", (x, b) -> x.showsThen(b, 60));
        forBrides("hide", (x, b) -> x.hide(b));
        forBrides("rightly", (x, b) -> x.rightly(b));
        forBrides("chance", (x, b) -> x.chance(b, 4, 0));
        forBrides("whatIs, KINDS", (x, b) -> x.whatIs(b, 0));
        forBrides("whatIs, FIGURES", (x, b) -> x.whatIs(b, 1));
        forBrides("two", (x, b) -> x.two(b, b == 0 ? 1 : b - 1));
        forBrides("drink", (x, b) -> x.drink(0, b));
        forGrooms("groomThen", (x, g) -> x.groomThen(g, 60, 0));
        forGrooms("groomThen, whom", (x, g) -> x.groomThen(g, 1, 1));
        forGrooms("when", (x, g) -> x.when(g));
        forGrooms("takes", (x, g) -> x.takes(g));
        forGrooms("forget", (x, g) -> x.forget(g));
        forGrooms("pairs", (x, g) -> x.pairs(g));
        forGrooms("meant", (x, g) -> x.meant(g, 1));
    }

    private static void ofAll() {
        forEither("known", (x, what) -> x.known(what));
        forEither("order", (x, what) -> x.order(what));
        forEither("mean", (x, part) -> x.mean(part));
        forEither("lots", (x, what) -> x.lots(20, 77, what));
        forEither("lots of one", (x, what) -> x.lots(1, -77, what));
        forEither("alike", (x, what) -> x.alike(what));
        forEither("alike, GREATEST", (x, what) -> x.alike(2 + what));
        changesNothing("pairs(-1)", x -> x.pairs(-1));
        changesNothing("away", x -> x.away());
        changesNothing("loses", x -> x.loses());
        changesNothing("tells", x -> x.tells());
        changesNothing("sees", x -> x.sees());
        changesNothing("lies", x -> x.lies());
    }

    /** What is thought of in one call is not there in the next. */
    private static void oneBehindTheOther() {
        BrideNotKnown x = told("bb000;bb001;bb002;bb003;g0100;g0200;g6303;l19;");
        BrideNotKnown twin = told("bb000;bb001;bb002;bb003;g0100;g0200;g6303;l19;");
        x.hide(3);
        x.lots(3, 1, 0);
        x.order(1);
        x.two(0, 3);
        x.away();
        checks.due("hide(3)", x.hide(3), twin.hide(3));
        x.away();
        checks.due("order(0)", x.order(0), twin.order(0));
        x.lots(2, 2, 1);
        checks.due("away()", x.away(), twin.away());
        x.order(0);
        checks.due("two(1, 3)", x.two(1, 3), twin.two(1, 3));
        x.two(2, 3);
        checks.due("lots(5, 5, 0)", x.lots(5, 5, 0), twin.lots(5, 5, 0));
        x.hide(0);
        checks.due("pairs(1)", x.pairs(1), twin.pairs(1));
        Checks.told(x, "bb064;");
        Checks.told(twin, "bb064;");
        checks.due("order(0) behind a FAULT", x.order(0), twin.order(0));
        checks.due("away() behind a FAULT", x.away(), twin.away());
    }

    public static void main(String[] args) {
        ofOne();
        ofAll();
        oneBehindTheOther();
        checks.end();
    }
}
