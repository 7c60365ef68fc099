import java.util.List;

/** Counts answers that are not as due, and ends the test with exit code 1 if there was one. */
final class Checks {
    private final String name;
    private int made = 0;
    private int wrong = 0;

    Checks(String name) {
        this.name = name;
    }

    int made() {
        return made;
    }

    void due(String call, long got, long want) {
        made++;
        if (got != want) {
            wrong++;
            System.out.println(name + ": " + call + " answered " + got + ", due is " + want);
        }
    }

    void same(String what, List<String> got, List<String> want) {
        made++;
        if (!got.equals(want)) {
            wrong++;
            System.out.println(name + ": " + what + ": " + got + ", due is " + want);
        }
    }

    void end() {
        System.out.println(name + ": " + made + " answers, " + wrong + " not as due");
        if (wrong != 0 || made == 0) {
            System.exit(1);
        }
    }

    static void letters(BrideNotKnown x, String text) {
        for (int i = 0; i < text.length(); i++) {
            x.letter(text.charAt(i));
        }
    }

    /** What valley() answers behind these letters. */
    static int told(BrideNotKnown x, String text) {
        letters(x, text);
        return x.valley();
    }

    static BrideNotKnown valleyOf(String text) {
        BrideNotKnown x = new BrideNotKnown();
        if (!text.isEmpty() && told(x, text) < 1) {
            throw new IllegalStateException("no valley: " + text);
        }
        return x;
    }

    static void numbers(BrideNotKnown x, int... row) {
        x.clear();
        for (int v : row) {
            x.row(v);
        }
    }
}
