import java.lang.reflect.Method;
import java.lang.reflect.Modifier;
import java.nio.file.Files;
import java.nio.file.Path;
import java.util.ArrayList;
import java.util.List;
import java.util.regex.Matcher;
import java.util.regex.Pattern;

/**
 * The calls that README.md shows, made one behind the other, answer as it says. The answers here are
 * worked out by hand from the document; README.md has to show these calls with these answers, no
 * other, and each call of the document's face.
 */
public final class ReadmeTest {
    private static final Checks checks = new Checks("ReadmeTest");
    private static final String MADE = "new BrideNotKnown()";
    private static final Pattern SHOWN = Pattern.compile("x\\.(\\w+\\([^)]*\\)); +// (-?\\d+): .+");
    private static final Pattern TOLD = Pattern.compile("tell\\(x, \"([^\"]+)\"\\);");

    private static final List<String> calls = new ArrayList<>();
    private static BrideNotKnown x;

    private static void make() {
        x = new BrideNotKnown();
        calls.add(MADE);
    }

    private static void tell(String text) {
        Checks.letters(x, text);
        calls.add("tell " + text);
    }

    private static void due(String call, long got, long want) {
        checks.due(call, got, want);
        calls.add(call + " " + want);
    }

    private static void telling() {
        make();
        tell("bb007;bs121;bf207;bc312;g6307;g0112;l14;");
        due("count(7)", x.count(7), 40);
        due("valley()", x.valley(), 7);
        due("count(7)", x.count(7), 0);
        due("count(0)", x.count(0), 4);
        due("count(1)", x.count(1), 2);
        due("count(3)", x.count(3), 15);
    }

    /** They show 7, 7 (the sister's), 3 (7 without toe 2) and 12; a year on the chapped one 4. */
    private static void askingOne() {
        due("bride(2, 2)", x.bride(2, 2), 7);
        due("bride(2, 3)", x.bride(2, 3), 3);
        due("bride(1, 3)", x.bride(1, 3), 7);
        due("groom(0, 4)", x.groom(0, 4), 3);
        due("groom(0, 5)", x.groom(0, 5), -9);
        due("groom(1, 5)", x.groom(1, 5), 3);
        due("showsThen(3, 1)", x.showsThen(3, 1), 4);
        due("groomThen(1, 1, 0)", x.groomThen(1, 1, 0), 8);
    }

    /**
     * Without bride 0 or 1 the other one of them would be known as well as bride 3. Own feet from
     * mind 12 (groom 1): 7 and 21 three toes, 12 none.
     */
    private static void askingKnown() {
        due("known(0)", x.known(0), 8);
        due("known(1)", x.known(1), 7);
        due("when(0)", x.when(0), -9);
        due("when(1)", x.when(1), 0);
        due("takes(0)", x.takes(0), 0);
        due("takes(1)", x.takes(1), -9);
        due("hide(3)", x.hide(3), 1);
        due("forget(1)", x.forget(1), 1);
        due("drink(0, 1)", x.drink(0, 1), 1);
        due("away()", x.away(), 3);
        due("pairs(-1)", x.pairs(-1), 2);
        due("pairs(0)", x.pairs(0), 0);
        due("pairs(1)", x.pairs(1), 1);
        due("meant(1, 0)", x.meant(1, 0), 3);
        due("meant(1, 1)", x.meant(1, 1), 0);
        due("loses()", x.loses(), 2);
    }

    /**
     * Toes 0 and 1: 7, 7, 3 show them; toe 2: 7, 7, 12; toe 3: 12 alone; toes 4, 5: nobody. Of two,
     * 10 times known by less guessed by, as bride 0 then 3 have it, changed or not: 00 -1 9, 01 -1 0,
     * 10 -1 -1, 11 -1 0: at 00 bride 3 alone has less by changing; at 01 neither has less.
     */
    private static void askingLikeness() {
        due("alike(0)", x.alike(0), 1);
        due("alike(1)", x.alike(1), 1);
        due("alike(2)", x.alike(2), 2);
        due("alike(3)", x.alike(3), 7);
        due("tells()", x.tells(), 0);
        due("sees()", x.sees(), -9);
        due("order(0)", x.order(0), 1);
        due("order(1)", x.order(1), 1);
        due("lies()", x.lies(), 3);
        due("two(0, 3)", x.two(0, 3), 1);
    }

    /**
     * Of seed 7 the draws are 61, 49, 0, 40, 31, 33 and 5, 32, 20, 11, 0, 13. The first valley shows
     * 61, 61, 4, 40: groom 0 guesses none and marries bride 0, groom 1 knows bride 1, the one with toe
     * 0 left. The second shows 5, 5, 16, 11: groom 0 marries bride 0, and groom 1, who guesses brides
     * 1 and 3, at place 4 modulo 2 bride 1.
     */
    private static void askingOdds() {
        due("chance(0, 2, 0)", x.chance(0, 2, 0), 1);
        due("chance(0, 2, 1)", x.chance(0, 2, 1), 2);
        due("mean(0)", x.mean(0), 11);
        due("mean(1)", x.mean(1), 4);
        due("lots(2, 7, 0)", x.lots(2, 7, 0), 3);
        due("lots(2, 7, 1)", x.lots(2, 7, 1), 1);
    }

    /**
     * Foot 12 of figure 3, the sister's foot 7: as a bride 12, 12; sister 7, 7; feigner 4, 4; chapped
     * 12, 4; twin 11, 11; masked 12, 4. Chapped, toe 3 is changed by figures 3 and 9 alone.
     */
    private static void row() {
        due("row(12)", x.row(12), 1);
        due("row(4)", x.row(4), 2);
        due("whatIs(3, 0)", x.whatIs(3, 0), 8 + 32);
        due("whatIs(3, 1)", x.whatIs(3, 1), 8 + 512);
        due("clear()", x.clear(), 2);
        due("row(2)", x.row(2), 1);
        due("row(4)", x.row(4), 2);
        due("rightly(3)", x.rightly(3), 1);
        due("judge()", x.judge(), 1);
        due("count(6)", x.count(6), 0);
    }

    private static void changing() {
        due("image()", x.image(), 0);
        due("wedding(1)", x.wedding(1), 3);
        due("bride(3, 4)", x.bride(3, 4), 2);
        due("bride(3, 5)", x.bride(3, 5), 1);
        due("wedding(0)", x.wedding(0), 100);
        due("bride(0, 5)", x.bride(0, 5), 2);
        due("groom(0, 3)", x.groom(0, 3), 1);
        due("count(3)", x.count(3), 6);
        due("years(2)", x.years(2), 3);
        due("groom(1, 2)", x.groom(1, 2), 2);
        due("changes(2, 0)", x.changes(2, 0), 6);
        due("looks(1, 48)", x.looks(1, 48), 1);
        due("minds(1, 16)", x.minds(1, 16), 12);
        due("drinks(1, 9)", x.drinks(1, 9), 2);
        due("turn(3, 0, 5)", x.turn(3, 0, 5), 33);
        due("on()", x.on(), 0);
        due("count(3)", x.count(3), 15);
        due("groom(1, 2)", x.groom(1, 2), 4);
    }

    private static void belowZero() {
        make();
        due("groom(0, 0)", x.groom(0, 0), -1);
        due("known(2)", x.known(2), -2);
        due("on()", x.on(), -3);
        due("years(0)", x.years(0), -4);
        due("years(61)", x.years(61), -6);
        due("chance(0, 0, 0)", x.chance(0, 0, 0), 4000000000000000001L);
        due("mean(2)", x.mean(2), 4000000000000000002L);
        due("count(11)", x.count(11), 2);
        due("count(12)", x.count(12), 2);
        due("away()", x.away(), -9);
        due("letter('w')", x.letter('w'), 1);
        due("valley()", x.valley(), -1001);
        tell("bx007;");
        due("valley()", x.valley(), -1001);
        tell("bb007;w0;");
        due("valley()", x.valley(), -2006);
        due("count(0)", x.count(0), 0);
    }

    /** What README.md shows at the beginning of lines; the words behind an answer are left out. */
    private static List<String> shownIn(String page) {
        List<String> shown = new ArrayList<>();
        for (String line : page.split("\n")) {
            Matcher call = SHOWN.matcher(line);
            Matcher told = TOLD.matcher(line);
            if (call.matches()) {
                shown.add(call.group(1) + " " + call.group(2));
            } else if (told.matches()) {
                shown.add("tell " + told.group(1));
            } else if (line.matches("(BrideNotKnown )?x = new BrideNotKnown\\(\\);")) {
                shown.add(MADE);
            } else if (line.matches("(BrideNotKnown )?x\\b.*|tell\\(.*")) {
                shown.add("not read: " + line);
            }
        }
        return shown;
    }

    private static void wholeFace(String page) {
        for (Method m : BrideNotKnown.class.getDeclaredMethods()) {
            if (Modifier.isPublic(m.getModifiers())) {
                boolean isShown = Pattern.compile("(?m)^x\\." + m.getName() + "\\(").matcher(page).find();
                checks.due(m.getName() + " is shown", isShown ? 1 : 0, 1);
            }
        }
    }

    public static void main(String[] args) throws Exception {
        String page = Files.readString(Path.of("README.md"));
        telling();
        askingOne();
        askingKnown();
        askingLikeness();
        askingOdds();
        row();
        changing();
        belowZero();
        checks.same("README.md", shownIn(page), calls);
        wholeFace(page);
        checks.end();
    }
}
