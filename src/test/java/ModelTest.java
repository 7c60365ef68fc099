import java.util.ArrayList;
import java.util.List;
import java.util.Random;

/** Runs by lot, each answer held against the Model's; the lot is the same every time. */
public final class ModelTest {
    private static final Checks checks = new Checks("ModelTest");
    private static final long REFUSED = 4000000000000000000L;
    /** What an object answers behind its 512th call is free; each call is one answer here. */
    private static final int MOST_CALLS = 512;
    private static final int MOST_OF_A_STEP = 70;

    private final Random lot;
    private final BrideNotKnown x = new BrideNotKnown();
    private Model m = new Model();
    private Model image = null;
    private final StringBuilder text = new StringBuilder();
    private final List<Integer> row = new ArrayList<>();
    private final int[] refusals = new int[7];

    private ModelTest(long seed) {
        lot = new Random(seed);
    }

    private long refused(int number) {
        refusals[-number]++;
        return number;
    }

    /** The first refusal that fits, in the order of the document; 0 if none does. */
    private static int first(boolean nobody, int v, int least, int greatest) {
        return nobody ? -1 : v < least ? -4 : v > greatest ? -6 : 0;
    }

    private int about(int size) {
        return lot.nextInt(12) == 0 ? lot.nextInt(size + 4) - 2 : lot.nextInt(Math.max(1, size));
    }

    private int bride() {
        return about(m.brides.size());
    }

    private int groom() {
        return about(m.grooms.size());
    }

    private boolean noBride(int b) {
        return b < 0 || b >= m.brides.size();
    }

    private boolean noGroom(int g) {
        return g < 0 || g >= m.grooms.size();
    }

    private String statement() {
        int feet = lot.nextInt(3) == 0 ? 64 : 4;
        switch (lot.nextInt(12)) {
            case 0: case 1: case 2: case 3:
                return "b" + "bsfctm".charAt(lot.nextInt(6)) + lot.nextInt(10) + two(lot.nextInt(feet)) + ";";
            case 4: case 5: case 6:
                return "g" + two(lot.nextInt(lot.nextInt(3) == 0 ? 64 : 8)) + two(lot.nextInt(feet)) + ";";
            case 7:
                return "t" + lot.nextInt(4) + lot.nextInt(7) + ";";
            case 8:
                return "l" + lot.nextInt(4) + lot.nextInt(10) + ";";
            case 9:
                return "w" + lot.nextInt(4) + ";";
            case 10:
                return "y0" + (1 + lot.nextInt(9)) + ";";
            default:
                return "y" + two(lot.nextInt(100)) + ";";
        }
    }

    private static String two(int n) {
        return "" + n / 10 + n % 10;
    }

    private void valley() {
        StringBuilder more = new StringBuilder();
        int statements = 1 + lot.nextInt(6);
        for (int i = 0; i < statements; i++) {
            more.append(statement());
        }
        if (lot.nextInt(6) == 0 && more.length() > 0) {
            int place = lot.nextInt(more.length());
            if (lot.nextBoolean()) {
                more.deleteCharAt(place);
            } else {
                more.setCharAt(place, ";bsfctmglwy0123456789/:".charAt(lot.nextInt(23)));
            }
        }
        for (int i = 0; i < more.length(); i++) {
            letter(more.charAt(i));
        }
        Model[] held = {m};
        int due = Model.tell(held, text.toString());
        checks.due("valley() of " + text, x.valley(), due);
        m = held[0];
        text.setLength(0);
    }

    private void letter(int c) {
        long due;
        if (c < 0) {
            due = refused(-4);
        } else if (c > 255 || text.length() == 96) {
            due = refused(-6);
        } else {
            text.append((char) c);
            due = text.length();
        }
        checks.due("letter(" + c + ")", x.letter(c), due);
    }

    private void brideIs() {
        int b = bride();
        int what = about(6);
        long due;
        if (noBride(b)) {
            due = refused(-1);
        } else if (what < 0 || what > 5) {
            due = refused(-2);
        } else {
            Model.Bride of = m.brides.get(b);
            due = new int[] {"bsfctm".indexOf(of.kind), of.figure, Model.bits(of.foot), Model.bits(m.shown(b)),
                of.sent, of.married ? 2 : of.sent > 0 ? 1 : 0}[what];
        }
        checks.due("bride(" + b + ", " + what + ")", x.bride(b, what), due);
    }

    private void groomIs() {
        int g = groom();
        int what = about(6);
        long due;
        if (noGroom(g)) {
            due = refused(-1);
        } else if (what < 0 || what > 5) {
            due = refused(-2);
        } else {
            Model.Groom of = m.grooms.get(g);
            due = new int[] {Model.bits(of.looks), Model.bits(of.mind), of.liquor, of.married ? 1 : 0,
                Model.bitsOf(m.guesses(g)), m.knows(g)}[what];
        }
        checks.due("groom(" + g + ", " + what + ")", x.groom(g, what), due);
    }

    private void wedding() {
        int g = groom();
        long due = noGroom(g) ? refused(-1) : !m.canWed(g) ? refused(-3) : m.wed(g);
        checks.due("wedding(" + g + ")", x.wedding(g), due);
    }

    private void changes() {
        int b = bride();
        int toe = about(6);
        long due;
        if (noBride(b) || toe < 0 || toe > 5) {
            due = refused(-1);
        } else {
            m.change(b, 1 << toe);
            due = Model.bits(m.brides.get(b).foot);
        }
        checks.due("changes(" + b + ", " + toe + ")", x.changes(b, toe), due);
    }

    private void groomBecomes(int which) {
        int g = groom();
        int v = about(which == 2 ? 10 : 64);
        int refusal = first(noGroom(g), v, 0, which == 2 ? 9 : 63);
        long due;
        if (refusal != 0) {
            due = refused(refusal);
        } else {
            Model.Groom of = m.grooms.get(g);
            due = which == 0 ? Model.bits(of.looks) : which == 1 ? Model.bits(of.mind) : of.liquor;
            if (which == 0) {
                of.looks = Model.toes(v);
            } else if (which == 1) {
                of.mind = Model.toes(v);
            } else {
                of.liquor = v;
            }
        }
        long got = which == 0 ? x.looks(g, v) : which == 1 ? x.minds(g, v) : x.drinks(g, v);
        checks.due("looks, minds, drinks " + which + " (" + g + ", " + v + ")", got, due);
    }

    private void turn() {
        int b = bride();
        int kind = about(6);
        int figure = about(10);
        long due;
        int refusal = first(false, figure, 0, 9);
        if (noBride(b)) {
            due = refused(-1);
        } else if (kind < 0 || kind > 5) {
            due = refused(-2);
        } else if (refusal != 0) {
            due = refused(refusal);
        } else {
            Model.Bride of = m.brides.get(b);
            due = 10 * "bsfctm".indexOf(of.kind) + of.figure;
            of.kind = "bsfctm".charAt(kind);
            of.figure = figure;
        }
        checks.due("turn(" + b + ", " + kind + ", " + figure + ")", x.turn(b, kind, figure), due);
    }

    private void years() {
        int n = lot.nextInt(3) == 0 ? about(63) : 1 + lot.nextInt(3);
        int refusal = first(false, n, 1, 60);
        long due;
        if (refusal != 0) {
            due = refused(refusal);
        } else if (m.year + n > 999) {
            due = refused(-6);
        } else {
            m = m.inYears(n);
            due = m.here().size();
        }
        checks.due("years(" + n + ")", x.years(n), due);
    }

    private void thens() {
        int b = bride();
        int n = about(61);
        int refusal = first(noBride(b), n, 0, 60);
        long due = refusal != 0 ? refused(refusal) : Model.bits(m.inYears(n).shown(b));
        checks.due("showsThen(" + b + ", " + n + ")", x.showsThen(b, n), due);
        int g = groom();
        int k = lot.nextInt(3) == 0 ? about(61) : lot.nextInt(4);
        int what = about(2);
        refusal = first(noGroom(g), k, 0, 60);
        if (refusal == 0 && what != 0 && what != 1) {
            refusal = -2;
        }
        due = refusal != 0 ? refused(refusal)
            : what == 0 ? Model.bitsOf(m.inYears(k).guesses(g)) : m.inYears(k).knows(g);
        checks.due("groomThen(" + g + ", " + k + ", " + what + ")", x.groomThen(g, k, what), due);
    }

    private void knowing() {
        int safe = Model.bitsOf(m.here()) & ~Model.bitsOf(m.known());
        checks.due("known(0)", x.known(0), Model.bitsOf(m.known()));
        checks.due("known(1)", x.known(1), safe);
        checks.due("known(2)", x.known(2), refused(-2));
        int g = groom();
        checks.due("when(" + g + ")", x.when(g), noGroom(g) ? refused(-1) : m.when(g));
        checks.due("takes(" + g + ")", x.takes(g), noGroom(g) ? refused(-1) : m.takes(g));
        long due = noGroom(g) ? refused(-1) : m.grooms.get(g).married ? refused(-3) : m.forget(g);
        checks.due("forget(" + g + ")", x.forget(g), due);
        int b = bride();
        due = noBride(b) ? refused(-1) : !m.here().contains(b) ? refused(-3) : m.hide(b);
        checks.due("hide(" + b + ")", x.hide(b), due);
        due = noBride(b) || noGroom(g) ? refused(-1) : m.drink(g, b);
        checks.due("drink(" + g + ", " + b + ")", x.drink(g, b), due);
        checks.due("away()", x.away(), m.away());
    }

    private void pairing() {
        for (int g = -2; g <= m.grooms.size(); g++) {
            long due = g != -1 && noGroom(g) ? refused(-1) : m.pairs(g);
            checks.due("pairs(" + g + ")", x.pairs(g), due);
        }
        int g = groom();
        int what = about(2);
        long due;
        if (noGroom(g)) {
            due = refused(-1);
        } else if (what != 0 && what != 1) {
            due = refused(-2);
        } else {
            due = what == 0 || m.meant(g) == -9 ? m.meant(g) : m.apart(m.meant(g), g);
        }
        checks.due("meant(" + g + ", " + what + ")", x.meant(g, what), due);
        List<Integer> losing = new ArrayList<>();
        for (int i = 0; i < m.grooms.size(); i++) {
            if (m.knows(i) != -9 && m.knows(i) == m.meant(i)) {
                losing.add(i);
            }
        }
        checks.due("loses()", x.loses(), Model.bitsOf(losing));
    }

    private void likeness() {
        for (int what = -1; what <= 4; what++) {
            long due = what < 0 || what > 3 ? refused(-2) : m.alike(what);
            checks.due("alike(" + what + ")", x.alike(what), due);
        }
        for (int what = -1; what <= 2; what++) {
            long due = what < 0 || what > 1 ? refused(-2) : m.order(what);
            checks.due("order(" + what + ")", x.order(what), due);
            due = what < 0 || what > 1 ? REFUSED - refused(-2) : m.mean(what);
            checks.due("mean(" + what + ")", x.mean(what), due);
        }
        checks.due("tells()", x.tells(), m.tells());
        checks.due("sees()", x.sees(), m.sees());
        checks.due("lies()", x.lies(), m.lies());
        int a = bride();
        int b = bride();
        long due;
        if (noBride(a) || noBride(b) || a == b) {
            due = refused(-1);
        } else if (!m.here().contains(a) || !m.here().contains(b)) {
            due = refused(-3);
        } else {
            due = m.two(a, b);
        }
        checks.due("two(" + a + ", " + b + ")", x.two(a, b), due);
    }

    private void odds() {
        int b = bride();
        int n = about(5);
        int part = about(2);
        int refusal = first(noBride(b), n, 0, 4);
        if (refusal == 0 && part != 0 && part != 1) {
            refusal = -2;
        }
        long due = refusal != 0 ? REFUSED - refused(refusal) : m.chance(b, n, part);
        checks.due("chance(" + b + ", " + n + ", " + part + ")", x.chance(b, n, part), due);
        int valleys = 1 + about(20);
        int z = lot.nextInt();
        int what = about(2);
        refusal = first(false, valleys, 1, 20);
        if (refusal == 0 && what != 0 && what != 1) {
            refusal = -2;
        }
        due = refusal != 0 ? refused(refusal) : m.lots(valleys, z, what);
        checks.due("lots(" + valleys + ", " + z + ", " + what + ")", x.lots(valleys, z, what), due);
    }

    private void rows() {
        if (lot.nextInt(4) == 0) {
            checks.due("clear()", x.clear(), row.size());
            row.clear();
        }
        int b = bride();
        int like = lot.nextInt(3);
        int many = lot.nextInt(5);
        for (int i = 0; i < many; i++) {
            int v = about(100);
            if (like == 1 && !noBride(b)) {
                v = Model.bits(m.inYears(row.size()).shown(b));
            } else if (like == 2) {
                v = row.size() < m.grooms.size() ? m.guesses(row.size()).size() : about(6);
            }
            number(v);
        }
        int what = about(2);
        long due = noBride(b) ? refused(-1) : what != 0 && what != 1 ? refused(-2) : m.whatIs(b, what, row);
        checks.due("whatIs(" + b + ", " + what + ") of " + row, x.whatIs(b, what), due);
        int right = 0;
        for (int v : row) {
            right += !noBride(b) && v < 6 && m.brides.get(b).foot[v] ? 1 : 0;
        }
        checks.due("rightly(" + b + ") of " + row, x.rightly(b), noBride(b) ? refused(-1) : right);
        if (like == 2) {
            due = -9;
            for (int i = row.size() - 1; i >= 0; i--) {
                due = noGroom(i) || m.guesses(i).size() != row.get(i) ? i : due;
            }
            checks.due("judge() of " + row, x.judge(), due);
            row.clear();
        }
    }

    private void number(int v) {
        int refusal = first(false, v, 0, 99);
        long due;
        if (refusal != 0 || row.size() == 16) {
            due = refused(refusal != 0 ? refusal : -6);
        } else {
            row.add(v);
            due = row.size();
        }
        checks.due("row(" + v + ")", x.row(v), due);
    }

    private void images() {
        if (lot.nextInt(3) == 0) {
            image = m.copy();
            checks.due("image()", x.image(), m.year);
        } else if (lot.nextInt(2) == 0) {
            m = image == null ? m : image.copy();
            checks.due("on()", x.on(), image == null ? refused(-3) : m.year);
        }
    }

    private void counts() {
        List<Integer> married = new ArrayList<>();
        int liquor = 0;
        for (int g = 0; g < m.grooms.size(); g++) {
            liquor += m.grooms.get(g).liquor;
            if (m.grooms.get(g).married) {
                married.add(g);
            }
        }
        int[] due = {m.brides.size(), m.grooms.size(), m.year, Model.bitsOf(m.here()), Model.bitsOf(married),
            liquor, row.size(), text.length(), -9, -9, -9, refusals[1], refusals[2], refusals[3], refusals[4],
            refusals[5], refusals[6], -9};
        int what = lot.nextInt(due.length);
        checks.due("count(" + what + ")", x.count(what), due[what]);
    }

    private void step() {
        switch (lot.nextInt(15)) {
            case 0: brideIs(); groomIs(); break;
            case 1: if (lot.nextInt(3) == 0) { wedding(); } break;
            case 2: changes(); break;
            case 3: groomBecomes(0); break;
            case 4: groomBecomes(1); break;
            case 5: groomBecomes(2); break;
            case 6: turn(); break;
            case 7: years(); break;
            case 8: thens(); break;
            case 9: knowing(); break;
            case 10: pairing(); break;
            case 11: likeness(); break;
            case 12: odds(); break;
            case 13: rows(); break;
            default: images(); break;
        }
        if (lot.nextInt(6) == 0) {
            valley();
        }
        counts();
    }

    public static void main(String[] args) {
        int runs = args.length > 1 ? Integer.parseInt(args[1]) : 1500;
        for (int seed = 0; seed < runs; seed++) {
            ModelTest run = new ModelTest(seed);
            int before = checks.made();
            run.valley();
            run.valley();
            for (int i = 0; i < 50 && checks.made() - before <= MOST_CALLS - MOST_OF_A_STEP; i++) {
                run.step();
            }
        }
        checks.end();
    }
}
