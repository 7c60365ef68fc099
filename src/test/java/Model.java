import java.util.ArrayList;
import java.util.List;

/**
 * The document once more, in the plainest way: every question by trying all there is, on copies.
 * It stands for the due answers of runs by lot, and shares no code with the class.
 */
final class Model {
    static final int NONE = -9;

    static final class Bride {
        char kind;
        int figure;
        boolean[] foot = new boolean[6];
        int sent;
        boolean married;
    }

    static final class Groom {
        boolean[] looks = new boolean[6];
        boolean[] mind = new boolean[6];
        int liquor;
        boolean married;
    }

    final List<Bride> brides = new ArrayList<>();
    final List<Groom> grooms = new ArrayList<>();
    int year;

    Model copy() {
        Model m = new Model();
        m.year = year;
        for (Bride b : brides) {
            Bride c = new Bride();
            c.kind = b.kind;
            c.figure = b.figure;
            c.foot = b.foot.clone();
            c.sent = b.sent;
            c.married = b.married;
            m.brides.add(c);
        }
        for (Groom g : grooms) {
            Groom c = new Groom();
            c.looks = g.looks.clone();
            c.mind = g.mind.clone();
            c.liquor = g.liquor;
            c.married = g.married;
            m.grooms.add(c);
        }
        return m;
    }

    static boolean[] toes(int bits) {
        boolean[] toes = new boolean[6];
        for (int t = 0; t < 6; t++) {
            toes[t] = bits % 2 == 1;
            bits /= 2;
        }
        return toes;
    }

    static int bits(boolean[] toes) {
        int bits = 0;
        for (int t = 5; t >= 0; t--) {
            bits = 2 * bits + (toes[t] ? 1 : 0);
        }
        return bits;
    }

    static int bitsOf(List<Integer> some) {
        int bits = 0;
        for (int i : some) {
            bits += 1 << i;
        }
        return bits;
    }

    static int howMany(boolean[] toes) {
        int n = 0;
        for (boolean t : toes) {
            n += t ? 1 : 0;
        }
        return n;
    }

    Model inYears(int n) {
        Model m = copy();
        for (int i = 0; i < n; i++) {
            m.year++;
            for (Bride b : m.brides) {
                b.sent = b.sent > 0 ? b.sent - 1 : 0;
            }
            for (Groom g : m.grooms) {
                g.liquor = g.liquor > 0 ? g.liquor - 1 : 0;
            }
        }
        return m;
    }

    boolean[] shown(int i) {
        Bride b = brides.get(i);
        boolean[] s = b.foot.clone();
        if (b.kind == 's' || b.kind == 't') {
            boolean[] sister = brides.get(i == 0 ? 0 : i - 1).foot;
            for (int t = 0; t < 6; t++) {
                s[t] = b.kind == 's' ? sister[t] : sister[t] != b.foot[t];
            }
        }
        boolean feigns = b.kind == 'f' || (b.kind == 'c' || b.kind == 'm') && year % 2 == 1;
        if (feigns) {
            s[b.figure % 6] = !s[b.figure % 6];
        }
        if (b.kind == 'm') {
            s[0] = false;
            s[5] = false;
        }
        return s;
    }

    List<Integer> here() {
        List<Integer> l = new ArrayList<>();
        for (int i = 0; i < brides.size(); i++) {
            if (!brides.get(i).married && brides.get(i).sent == 0) {
                l.add(i);
            }
        }
        return l;
    }

    List<Integer> guesses(int groom) {
        Groom g = grooms.get(groom);
        List<Integer> l = new ArrayList<>();
        for (int i : here()) {
            boolean fits = true;
            for (int t = 0; t < 6; t++) {
                fits &= !g.looks[t] || shown(i)[t] == g.mind[t];
            }
            if (fits) {
                l.add(i);
            }
        }
        return l;
    }

    int knows(int groom) {
        List<Integer> l = guesses(groom);
        return l.size() == 1 ? l.get(0) : NONE;
    }

    List<Integer> known() {
        List<Integer> l = new ArrayList<>();
        for (int i = 0; i < brides.size(); i++) {
            if (knowers(i) > 0) {
                l.add(i);
            }
        }
        return l;
    }

    int knowers(int bride) {
        int n = 0;
        for (int g = 0; g < grooms.size(); g++) {
            n += !grooms.get(g).married && knows(g) == bride ? 1 : 0;
        }
        return n;
    }

    int guessers(int bride) {
        int n = 0;
        for (int g = 0; g < grooms.size(); g++) {
            n += !grooms.get(g).married && guesses(g).contains(bride) ? 1 : 0;
        }
        return n;
    }

    boolean canWed(int groom) {
        return groom >= 0 && groom < grooms.size() && !grooms.get(groom).married && !here().isEmpty();
    }

    int wed(int groom) {
        Groom g = grooms.get(groom);
        int one = knows(groom);
        if (one != NONE) {
            brides.get(one).sent = 1 + g.liquor / 3;
            return one;
        }
        List<Integer> of = guesses(groom).isEmpty() ? here() : guesses(groom);
        int taken = of.get(g.liquor % of.size());
        brides.get(taken).married = true;
        g.married = true;
        return 100 + taken;
    }

    int takes(int groom) {
        if (!canWed(groom)) {
            return NONE;
        }
        int answer = copy().wed(groom);
        return answer >= 100 ? answer - 100 : NONE;
    }

    int when(int groom) {
        for (int n = 0; n <= 60; n++) {
            if (inYears(n).knows(groom) != NONE) {
                return n;
            }
        }
        return NONE;
    }

    /** The better of two sets of toes: fewer, else the lesser. */
    static int better(int a, int b) {
        if (a == NONE || b == NONE) {
            return a == NONE ? b : a;
        }
        int fewer = howMany(toes(a)) - howMany(toes(b));
        return fewer < 0 || fewer == 0 && a < b ? a : b;
    }

    void change(int bride, int toes) {
        for (int t = 0; t < 6; t++) {
            brides.get(bride).foot[t] ^= toes(toes)[t];
        }
    }

    int hide(int bride) {
        int best = NONE;
        for (int toes = 63; toes >= 0; toes--) {
            Model m = copy();
            m.change(bride, toes);
            if (m.knowers(bride) == 0) {
                best = better(best, toes);
            }
        }
        return best;
    }

    int forget(int groom) {
        int best = NONE;
        for (int toes = 63; toes >= 0; toes--) {
            Model m = copy();
            boolean all = true;
            for (int t = 0; t < 6; t++) {
                if (toes(toes)[t]) {
                    all &= grooms.get(groom).looks[t];
                    m.grooms.get(groom).looks[t] = false;
                }
            }
            if (all && m.knows(groom) == NONE) {
                best = better(best, toes);
            }
        }
        return best;
    }

    int drink(int groom, int bride) {
        for (int v = 0; v <= 9; v++) {
            Model m = copy();
            m.grooms.get(groom).liquor = v;
            if (m.takes(groom) == bride) {
                return v;
            }
        }
        return NONE;
    }

    int away() {
        int best = NONE;
        int fewest = known().size();
        for (int i : here()) {
            Model m = copy();
            m.brides.get(i).sent = 1;
            if (m.known().size() < fewest) {
                fewest = m.known().size();
                best = i;
            }
        }
        return best;
    }

    /** The bride of each groom, by trying all; the first of the most is kept. */
    private void tryPairs(int groom, int[] has, int pairs, int[] best) {
        if (groom == grooms.size()) {
            if (pairs > best[grooms.size()]) {
                System.arraycopy(has, 0, best, 0, has.length);
                best[grooms.size()] = pairs;
            }
            return;
        }
        int known = knows(groom);
        for (int b : here()) {
            boolean free = !grooms.get(groom).married && b != known;
            for (int g = 0; g < groom; g++) {
                free &= has[g] != b;
            }
            if (free) {
                has[groom] = b;
                tryPairs(groom + 1, has, pairs + 1, best);
            }
        }
        has[groom] = NONE;
        tryPairs(groom + 1, has, pairs, best);
    }

    int pairs(int groom) {
        int[] best = new int[grooms.size() + 1];
        best[grooms.size()] = -1;
        tryPairs(0, new int[grooms.size()], 0, best);
        return best[groom == -1 ? grooms.size() : groom];
    }

    int apart(int bride, int groom) {
        int n = 0;
        for (int t = 0; t < 6; t++) {
            n += brides.get(bride).foot[t] != grooms.get(groom).mind[t] ? 1 : 0;
        }
        return n;
    }

    int meant(int groom) {
        int best = NONE;
        for (int b = brides.size() - 1; b >= 0; b--) {
            best = best == NONE || apart(b, groom) <= apart(best, groom) ? b : best;
        }
        return best;
    }

    int alike(int what) {
        int twos = 0;
        int first = NONE;
        int most = 0;
        int shows = NONE;
        for (int a : here()) {
            int same = 0;
            for (int b : here()) {
                if (bits(shown(a)) == bits(shown(b))) {
                    same++;
                    if (a < b) {
                        twos++;
                        first = first == NONE ? 10 * a + b : Math.min(first, 10 * a + b);
                    }
                }
            }
            if (same > most || same == most && bits(shown(a)) < shows) {
                most = same;
                shows = bits(shown(a));
            }
        }
        return new int[] {twos, first, most, shows}[what];
    }

    int tells() {
        int best = 5;
        int nearest = 99;
        for (int t = 5; t >= 0; t--) {
            int with = 0;
            for (int b : here()) {
                with += shown(b)[t] ? 1 : 0;
            }
            int apart = Math.abs(with - (here().size() - with));
            if (apart <= nearest) {
                nearest = apart;
                best = t;
            }
        }
        return best;
    }

    int sees() {
        int best = NONE;
        for (int look = 0; look < 64; look++) {
            List<Integer> seen = new ArrayList<>();
            for (int b : here()) {
                int s = bits(shown(b)) & look;
                if (!seen.contains(s)) {
                    seen.add(s);
                }
            }
            if (seen.size() == here().size()) {
                best = better(best, look);
            }
        }
        return best;
    }

    int order(int what) {
        Model m = copy();
        int[] n = new int[2];
        for (int g = 0; g < grooms.size(); g++) {
            if (m.canWed(g)) {
                n[m.wed(g) >= 100 ? 0 : 1]++;
            }
        }
        return n[what];
    }

    int lies() {
        int n = 0;
        for (int b : here()) {
            for (int t = 0; t < 6; t++) {
                n += shown(b)[t] != brides.get(b).foot[t] ? 1 : 0;
            }
        }
        return n;
    }

    int cost(int a, int x, int b, int y, int whose) {
        Model m = copy();
        m.change(a, x);
        m.change(b, y);
        return 10 * m.knowers(whose) - m.guessers(whose);
    }

    int two(int a, int b) {
        for (int i = 0; i < 4; i++) {
            int x = i / 2;
            int y = i % 2;
            if (cost(a, x, b, y, a) <= cost(a, 1 - x, b, y, a) && cost(a, x, b, y, b) <= cost(a, x, b, 1 - y, b)) {
                return 10 * x + y;
            }
        }
        return NONE;
    }

    /** Counts all ways in which the grooms can take. */
    private void tryTaking(List<List<Integer>> choices, int i, boolean taken, int bride, long[] ways) {
        if (i == choices.size()) {
            ways[taken ? 0 : 2]++;
            ways[1]++;
            return;
        }
        for (int b : choices.get(i)) {
            tryTaking(choices, i + 1, taken || b == bride, bride, ways);
        }
    }

    long chance(int bride, int n, int part) {
        List<List<Integer>> choices = new ArrayList<>();
        for (int g = 0; g < grooms.size() && choices.size() < n; g++) {
            if (!grooms.get(g).married) {
                choices.add(guesses(g).isEmpty() ? here() : guesses(g));
            }
        }
        long[] ways = new long[3];
        if (here().isEmpty()) {
            return part;
        }
        tryTaking(choices, 0, false, bride, ways);
        return least(ways[0], ways[1], part);
    }

    static long least(long above, long below, int part) {
        for (long d = below; d > 1; d--) {
            if (above % d == 0 && below % d == 0) {
                above /= d;
                below /= d;
            }
        }
        return part == 0 ? above : below;
    }

    long mean(int part) {
        int sum = 0;
        for (Bride b : brides) {
            sum += howMany(b.foot);
        }
        return brides.isEmpty() ? part : least(sum, brides.size(), part);
    }

    boolean isShown(int bride, List<Integer> row) {
        for (int i = 0; i < row.size(); i++) {
            if (bits(inYears(i).shown(bride)) != row.get(i)) {
                return false;
            }
        }
        return true;
    }

    int whatIs(int bride, int what, List<Integer> row) {
        List<Integer> fit = new ArrayList<>();
        for (int i = 0; i < (what == 0 ? 6 : 10); i++) {
            Model m = copy();
            if (what == 0) {
                m.brides.get(bride).kind = "bsfctm".charAt(i);
            } else {
                m.brides.get(bride).figure = i;
            }
            if (m.isShown(bride, row)) {
                fit.add(i);
            }
        }
        return bitsOf(fit);
    }

    int lots(int n, int z, int what) {
        int total = 0;
        for (int v = 0; v < n; v++) {
            Model m = copy();
            for (Bride b : m.brides) {
                z = z * 1664525 + 1013904223;
                b.foot = toes((z < 0 ? z + Integer.MAX_VALUE + 1 : z) / 256 % 64);
            }
            for (Groom g : m.grooms) {
                z = z * 1664525 + 1013904223;
                g.mind = toes((z < 0 ? z + Integer.MAX_VALUE + 1 : z) / 256 % 64);
            }
            total += m.order(what);
        }
        return total;
    }

    /** What valley() is to answer; without a fault all of it has come to this model. */
    static int tell(Model[] held, String text) {
        String[] forms = {"b[bsfctm]\\d\\d\\d;", "g\\d\\d\\d\\d;", "t\\d\\d;", "l\\d\\d;", "w\\d;", "y\\d\\d;"};
        String[] samples = {"bb000;", "g0000;", "t00;", "l00;", "w0;", "y00;"};
        List<String> statements = new ArrayList<>();
        String rest = text;
        while (!rest.isEmpty() || statements.isEmpty()) {
            int goesOn = 0;
            String found = null;
            for (int f = 0; f < forms.length; f++) {
                for (int k = 1; k <= Math.min(rest.length(), samples[f].length()); k++) {
                    boolean starts = (rest.substring(0, k) + samples[f].substring(k)).matches(forms[f]);
                    goesOn = starts ? Math.max(goesOn, k) : goesOn;
                    found = starts && k == samples[f].length() ? rest.substring(0, k) : found;
                }
            }
            if (found == null) {
                return -1000 - (text.length() - rest.length() + goesOn);
            }
            statements.add(found);
            rest = rest.substring(found.length());
        }
        Model m = held[0].copy();
        int place = 0;
        for (String s : statements) {
            if (!m.tellOne(s)) {
                return -2000 - place;
            }
            place += s.length();
        }
        held[0] = m;
        return statements.size();
    }

    private boolean tellOne(String s) {
        int first = s.charAt(1) - '0';
        int second = s.charAt(2) - '0';
        switch (s.charAt(0)) {
            case 'b':
                Bride b = new Bride();
                b.kind = s.charAt(1);
                b.figure = second;
                b.foot = toes(Integer.parseInt(s.substring(3, 5)));
                brides.add(b);
                return Integer.parseInt(s.substring(3, 5)) < 64 && brides.size() <= 8;
            case 'g':
                Groom g = new Groom();
                g.looks = toes(Integer.parseInt(s.substring(1, 3)));
                g.mind = toes(Integer.parseInt(s.substring(3, 5)));
                grooms.add(g);
                return Integer.parseInt(s.substring(1, 3)) < 64 && Integer.parseInt(s.substring(3, 5)) < 64
                        && grooms.size() <= 5;
            case 't':
                if (first >= brides.size() || second > 5) {
                    return false;
                }
                change(first, 1 << second);
                return true;
            case 'l':
                if (first >= grooms.size()) {
                    return false;
                }
                grooms.get(first).liquor = second;
                return true;
            case 'w':
                if (!canWed(first)) {
                    return false;
                }
                wed(first);
                return true;
            default:
                int n = 10 * first + second;
                if (n < 1 || n > 60 || year + n > 999) {
                    return false;
                }
                become(inYears(n));
                return true;
        }
    }

    void become(Model m) {
        year = m.year;
        brides.clear();
        brides.addAll(m.brides);
        grooms.clear();
        grooms.addAll(m.grooms);
    }
}
