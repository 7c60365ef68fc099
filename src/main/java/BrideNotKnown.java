/** A valley told in letters, whose brides must not be known by their feet. */
public final class BrideNotKnown {

    private static final int MOST_BRIDES = 8;
    private static final int MOST_GROOMS = 5;
    private static final int MOST_LETTERS = 96;
    private static final int MOST_NUMBERS = 16;
    private static final int TOES = 6;
    private static final int WHOLE_FOOT = 63;
    private static final int GREATEST_DIGIT = 9;
    private static final int LAST_YEAR = 999;
    private static final int MOST_YEARS = 60;

    private static final int WITHOUT_SIGN = 0x7fffffff;

    private static final int NONE = -9;
    private static final int NO_FAULT = -1;
    private static final int MARRIES = 100;

    private static final int NOBODY = -1;
    private static final int OTHER = -2;
    private static final int STATE = -3;
    private static final int BELOW = -4;
    private static final int ROOM = -6;
    private static final long REFUSED_LONG = 4000000000000000000L;

    /** Kinds of brides; kind 0 shows her own foot. */
    private static final int SISTER = 1;
    private static final int FEIGNER = 2;
    private static final int CHAPPED = 3;
    private static final int TWIN = 4;
    private static final int MASKED = 5;
    private static final int KINDS = 6;
    /** Toes 0 and 5. */
    private static final int MASK = 33;

    private static final int HERE = 0;
    private static final int SENT = 1;
    private static final int MARRIED = 2;

    /** All sets of toes, those of fewer toes first, of equally many the lesser number first. */
    private static final int[] FEWEST_FIRST = {
        0, 1, 2, 4, 8, 16, 32, 3, 5, 6, 9, 10, 12, 17, 18, 20,
        24, 33, 34, 36, 40, 48, 7, 11, 13, 14, 19, 21, 22, 25, 26, 28,
        35, 37, 38, 41, 42, 44, 49, 50, 52, 56, 15, 23, 27, 29, 30, 39,
        43, 45, 46, 51, 53, 54, 57, 58, 60, 31, 47, 55, 59, 61, 62, 63,
    };

    private final Valley now = new Valley();
    /** Where a question tries what would be; it is written over by each one that does. */
    private final Valley thought = new Valley();
    private final Valley kept = new Valley();
    private boolean imageTaken;
    private final Text text = new Text();
    private final Row numbers = new Row();
    private final Pairs matching = new Pairs();
    private final int[] refusals = new int[7];

    public BrideNotKnown() {
    }

    // ---- what comes and what changes ----

    public int letter(int c) {
        if (c < 0) {
            return refuse(BELOW);
        }
        if (c > 255 || text.isFull()) {
            return refuse(ROOM);
        }
        return text.add(c);
    }

    public int valley() {
        thought.become(now);
        int answer = text.tellTo(thought);
        text.empty();
        if (answer >= 0) {
            now.become(thought);
        }
        return answer;
    }

    public int bride(int bride, int what) {
        if (!now.hasBride(bride)) {
            return refuse(NOBODY);
        }
        switch (what) {
            case 0:
                return now.kindOf(bride);
            case 1:
                return now.figureOf(bride);
            case 2:
                return now.footOf(bride);
            case 3:
                return now.shows(bride, 0);
            case 4:
                return now.sentFor(bride);
            case 5:
                return now.placeOf(bride);
            default:
                return refuse(OTHER);
        }
    }

    public int groom(int groom, int what) {
        if (!now.hasGroom(groom)) {
            return refuse(NOBODY);
        }
        switch (what) {
            case 0:
                return now.lookOf(groom);
            case 1:
                return now.mindOf(groom);
            case 2:
                return now.liquorOf(groom);
            case 3:
                return now.isUnmarried(groom) ? 0 : 1;
            case 4:
                return now.guesses(groom, 0);
            case 5:
                return now.knows(groom, 0);
            default:
                return refuse(OTHER);
        }
    }

    public int wedding(int groom) {
        if (!now.hasGroom(groom)) {
            return refuse(NOBODY);
        }
        if (!now.canWed(groom)) {
            return refuse(STATE);
        }
        return now.wed(groom);
    }

    public int changes(int bride, int toe) {
        if (!now.hasBride(bride) || toe < 0 || toe >= TOES) {
            return refuse(NOBODY);
        }
        now.changeToes(bride, 1 << toe);
        return now.footOf(bride);
    }

    public int looks(int groom, int bits) {
        int refusal = refusalOf(now.hasGroom(groom), bits, 0, WHOLE_FOOT);
        if (refusal != 0) {
            return refuse(refusal);
        }
        int before = now.lookOf(groom);
        now.setLook(groom, bits);
        return before;
    }

    public int minds(int groom, int foot) {
        int refusal = refusalOf(now.hasGroom(groom), foot, 0, WHOLE_FOOT);
        if (refusal != 0) {
            return refuse(refusal);
        }
        int before = now.mindOf(groom);
        now.setMind(groom, foot);
        return before;
    }

    public int drinks(int groom, int v) {
        int refusal = refusalOf(now.hasGroom(groom), v, 0, GREATEST_DIGIT);
        if (refusal != 0) {
            return refuse(refusal);
        }
        int before = now.liquorOf(groom);
        now.setLiquor(groom, v);
        return before;
    }

    public int turn(int bride, int kind, int figure) {
        if (!now.hasBride(bride)) {
            return refuse(NOBODY);
        }
        if (kind < 0 || kind >= KINDS) {
            return refuse(OTHER);
        }
        int refusal = outside(figure, 0, GREATEST_DIGIT);
        if (refusal != 0) {
            return refuse(refusal);
        }
        int before = 10 * now.kindOf(bride) + now.figureOf(bride);
        now.setKind(bride, kind, figure);
        return before;
    }

    public int years(int n) {
        int refusal = outside(n, 1, MOST_YEARS);
        if (refusal != 0) {
            return refuse(refusal);
        }
        if (!now.canPass(n)) {
            return refuse(ROOM);
        }
        now.passYears(n);
        return Integer.bitCount(now.hereThen(0));
    }

    // ---- what would be in years, and who is known ----

    public int showsThen(int bride, int n) {
        int refusal = refusalOf(now.hasBride(bride), n, 0, MOST_YEARS);
        if (refusal != 0) {
            return refuse(refusal);
        }
        return now.shows(bride, n);
    }

    public int groomThen(int groom, int n, int what) {
        int refusal = refusalOf(now.hasGroom(groom), n, 0, MOST_YEARS);
        if (refusal != 0) {
            return refuse(refusal);
        }
        if (isNotEither(what)) {
            return refuse(OTHER);
        }
        return what == 0 ? now.guesses(groom, n) : now.knows(groom, n);
    }

    public int known(int what) {
        if (isNotEither(what)) {
            return refuse(OTHER);
        }
        return what == 0 ? now.knownBits() : now.hereThen(0) & ~now.knownBits();
    }

    public int when(int groom) {
        if (!now.hasGroom(groom)) {
            return refuse(NOBODY);
        }
        for (int n = 0; n <= MOST_YEARS; n++) {
            if (now.knows(groom, n) != NONE) {
                return n;
            }
        }
        return NONE;
    }

    public int takes(int groom) {
        if (!now.hasGroom(groom)) {
            return refuse(NOBODY);
        }
        return now.takenWith(groom, now.liquorOf(groom));
    }

    // ---- what would be better ----

    public int hide(int bride) {
        if (!now.hasBride(bride)) {
            return refuse(NOBODY);
        }
        if (!now.isHere(bride)) {
            return refuse(STATE);
        }
        return Hiding.fewestToes(now, thought, bride);
    }

    public int forget(int groom) {
        if (!now.hasGroom(groom)) {
            return refuse(NOBODY);
        }
        if (!now.isUnmarried(groom)) {
            return refuse(STATE);
        }
        return Hiding.fewestForgotten(now, groom);
    }

    public int drink(int groom, int bride) {
        if (!now.hasGroom(groom) || !now.hasBride(bride)) {
            return refuse(NOBODY);
        }
        for (int liquor = 0; liquor <= GREATEST_DIGIT; liquor++) {
            if (now.takenWith(groom, liquor) == bride) {
                return liquor;
            }
        }
        return NONE;
    }

    public int away() {
        return Hiding.bestAway(now, thought);
    }

    public int pairs(int groom) {
        if (groom != -1 && !now.hasGroom(groom)) {
            return refuse(NOBODY);
        }
        matching.look(now);
        return groom == -1 ? matching.most(0, 0) : matching.partnerOf(groom);
    }

    public int meant(int groom, int what) {
        if (!now.hasGroom(groom)) {
            return refuse(NOBODY);
        }
        if (isNotEither(what)) {
            return refuse(OTHER);
        }
        int nearest = now.nearestTo(groom);
        return what == 0 || nearest == NONE ? nearest : now.toesFromMind(groom, nearest);
    }

    public int loses() {
        int bits = 0;
        for (int g = 0; g < now.groomCount; g++) {
            int one = now.knows(g, 0);
            if (one != NONE && one == now.nearestTo(g)) {
                bits |= 1 << g;
            }
        }
        return bits;
    }

    // ---- who is like whom ----

    public int alike(int what) {
        switch (what) {
            case 0:
                return Likeness.twos(now);
            case 1:
                return Likeness.firstTwo(now);
            case 2:
                return Likeness.greatest(now);
            case 3:
                return Likeness.greatestShown(now);
            default:
                return refuse(OTHER);
        }
    }

    public int tells() {
        return Likeness.tellingToe(now);
    }

    public int sees() {
        return Likeness.fewestLooks(now);
    }

    public int order(int what) {
        if (isNotEither(what)) {
            return refuse(OTHER);
        }
        thought.become(now);
        return thought.wedAll(what);
    }

    public int lies() {
        int lies = 0;
        for (int b = 0; b < now.brideCount; b++) {
            if (now.isHere(b)) {
                lies += Integer.bitCount(now.shows(b, 0) ^ now.footOf(b));
            }
        }
        return lies;
    }

    public int rightly(int bride) {
        if (!now.hasBride(bride)) {
            return refuse(NOBODY);
        }
        return numbers.howManyToesOf(now.footOf(bride));
    }

    public int two(int a, int b) {
        if (!now.hasBride(a) || !now.hasBride(b) || a == b) {
            return refuse(NOBODY);
        }
        if (!now.isHere(a) || !now.isHere(b)) {
            return refuse(STATE);
        }
        return Hiding.firstRest(now, thought, a, b);
    }

    // ---- odds ----

    public long chance(int bride, int n, int part) {
        int refusal = refusalOf(now.hasBride(bride), n, 0, 4);
        if (refusal != 0) {
            return refuseLong(refusal);
        }
        if (isNotEither(part)) {
            return refuseLong(OTHER);
        }
        return Odds.ofTaking(now, bride, n, part);
    }

    public long mean(int part) {
        if (isNotEither(part)) {
            return refuseLong(OTHER);
        }
        return Odds.meanToes(now, part);
    }

    public int whatIs(int bride, int what) {
        if (!now.hasBride(bride)) {
            return refuse(NOBODY);
        }
        if (isNotEither(what)) {
            return refuse(OTHER);
        }
        return what == 0 ? numbers.kindsOf(now, bride) : numbers.figuresOf(now, bride);
    }

    // ---- the row, lots, the image, counts ----

    public int row(int v) {
        int refusal = outside(v, 0, 99);
        if (refusal != 0) {
            return refuse(refusal);
        }
        if (numbers.isFull()) {
            return refuse(ROOM);
        }
        return numbers.add(v);
    }

    public int judge() {
        int answer = numbers.firstWrongGuess(now);
        numbers.empty();
        return answer;
    }

    public int clear() {
        int had = numbers.size;
        numbers.empty();
        return had;
    }

    public int lots(int n, int z, int what) {
        int refusal = outside(n, 1, 20);
        if (refusal != 0) {
            return refuse(refusal);
        }
        if (isNotEither(what)) {
            return refuse(OTHER);
        }
        int seed = z;
        int total = 0;
        for (int i = 0; i < n; i++) {
            thought.become(now);
            seed = thought.drawFeetAndMinds(seed);
            total += thought.wedAll(what);
        }
        return total;
    }

    public int image() {
        kept.become(now);
        imageTaken = true;
        return now.year;
    }

    public int on() {
        if (!imageTaken) {
            return refuse(STATE);
        }
        now.become(kept);
        return now.year;
    }

    public int count(int what) {
        if (what >= 11 && what <= 16) {
            return at(refusals, what - 10);
        }
        switch (what) {
            case 0:
                return now.brideCount;
            case 1:
                return now.groomCount;
            case 2:
                return now.year;
            case 3:
                return now.hereThen(0);
            case 4:
                return now.marriedGrooms;
            case 5:
                return now.allLiquor();
            case 6:
                return numbers.size;
            case 7:
                return text.size;
            default:
                return NONE;
        }
    }

    // ---- refusals ----

    private int refuse(int refusal) {
        put(refusals, -refusal, at(refusals, -refusal) + 1);
        return refusal;
    }

    private long refuseLong(int refusal) {
        return REFUSED_LONG - refuse(refusal);
    }

    /** Which refusal a number asks for, 0 if none. */
    private static int outside(int v, int least, int greatest) {
        if (v < least) {
            return BELOW;
        }
        return v > greatest ? ROOM : 0;
    }

    /** Which refusal somebody told with a number asks for, 0 if none: who it is comes first. */
    private static int refusalOf(boolean isSomebody, int v, int least, int greatest) {
        return isSomebody ? outside(v, least, greatest) : NOBODY;
    }

    private static boolean isNotEither(int what) {
        return what != 0 && what != 1;
    }

    // ---- arrays, looked at before they are used ----

    private static int at(int[] a, int i) {
        return a != null && i >= 0 && i < a.length ? a[i] : 0;
    }

    private static void put(int[] a, int i, int v) {
        if (a != null && i >= 0 && i < a.length) {
            a[i] = v;
        }
    }

    private static void copy(int[] from, int[] to) {
        if (from == null || to == null) {
            return;
        }
        for (int i = 0; i < from.length && i < to.length; i++) {
            to[i] = from[i];
        }
    }

    private static boolean has(int bits, int i) {
        return i >= 0 && i < 32 && (bits >> i & 1) == 1;
    }

    /** The number of the bit at a place among those that are set; NONE if there are not so many. */
    private static int bitAt(int bits, int place) {
        int left = place;
        for (int i = 0; i < 32; i++) {
            if (has(bits, i)) {
                if (left == 0) {
                    return i;
                }
                left--;
            }
        }
        return NONE;
    }

    private static int onlyOne(int bits) {
        return Integer.bitCount(bits) == 1 ? bitAt(bits, 0) : NONE;
    }

    /** Brides and grooms and the year: all that an image keeps. */
    private static final class Valley {
        int year;
        int brideCount;
        final int[] kinds = new int[MOST_BRIDES];
        final int[] figures = new int[MOST_BRIDES];
        final int[] feet = new int[MOST_BRIDES];
        final int[] sentYears = new int[MOST_BRIDES];
        int marriedBrides;
        int groomCount;
        final int[] lookBits = new int[MOST_GROOMS];
        final int[] mindFeet = new int[MOST_GROOMS];
        final int[] liquors = new int[MOST_GROOMS];
        int marriedGrooms;

        void become(Valley other) {
            if (other == null) {
                return;
            }
            year = other.year;
            brideCount = other.brideCount;
            copy(other.kinds, kinds);
            copy(other.figures, figures);
            copy(other.feet, feet);
            copy(other.sentYears, sentYears);
            marriedBrides = other.marriedBrides;
            groomCount = other.groomCount;
            copy(other.lookBits, lookBits);
            copy(other.mindFeet, mindFeet);
            copy(other.liquors, liquors);
            marriedGrooms = other.marriedGrooms;
        }

        boolean hasBride(int bride) {
            return bride >= 0 && bride < brideCount;
        }

        boolean hasGroom(int groom) {
            return groom >= 0 && groom < groomCount;
        }

        int kindOf(int bride) {
            return at(kinds, bride);
        }

        int figureOf(int bride) {
            return at(figures, bride);
        }

        int footOf(int bride) {
            return at(feet, bride);
        }

        int sentFor(int bride) {
            return at(sentYears, bride);
        }

        int lookOf(int groom) {
            return at(lookBits, groom);
        }

        int mindOf(int groom) {
            return at(mindFeet, groom);
        }

        int liquorOf(int groom) {
            return at(liquors, groom);
        }

        boolean isUnmarried(int groom) {
            return !has(marriedGrooms, groom);
        }

        int placeOf(int bride) {
            if (has(marriedBrides, bride)) {
                return MARRIED;
            }
            return at(sentYears, bride) > 0 ? SENT : HERE;
        }

        boolean isHere(int bride) {
            return placeOf(bride) == HERE;
        }

        void setLook(int groom, int bits) {
            put(lookBits, groom, bits);
        }

        void setMind(int groom, int foot) {
            put(mindFeet, groom, foot);
        }

        void setLiquor(int groom, int liquor) {
            put(liquors, groom, liquor);
        }

        void setKind(int bride, int kind, int figure) {
            put(kinds, bride, kind);
            put(figures, bride, figure);
        }

        void changeToes(int bride, int toes) {
            put(feet, bride, footOf(bride) ^ toes);
        }

        void sendHome(int bride, int forYears) {
            put(sentYears, bride, forYears);
        }

        /** Whether there was room for her. */
        boolean addBride(int kind, int figure, int foot) {
            if (brideCount >= MOST_BRIDES || foot > WHOLE_FOOT) {
                return false;
            }
            setKind(brideCount, kind, figure);
            put(feet, brideCount, foot);
            brideCount++;
            return true;
        }

        /** Whether there was room for him. */
        boolean addGroom(int look, int mind) {
            if (groomCount >= MOST_GROOMS || look > WHOLE_FOOT || mind > WHOLE_FOOT) {
                return false;
            }
            setLook(groomCount, look);
            setMind(groomCount, mind);
            groomCount++;
            return true;
        }

        boolean canPass(int n) {
            return year + n <= LAST_YEAR;
        }

        void passYears(int n) {
            year += n;
            for (int b = 0; b < brideCount; b++) {
                put(sentYears, b, Math.max(0, sentFor(b) - n));
            }
            for (int g = 0; g < groomCount; g++) {
                setLiquor(g, Math.max(0, liquorOf(g) - n));
            }
        }

        /** Brides who will be here in so many years, if nobody weds till then. */
        int hereThen(int n) {
            int bits = 0;
            for (int b = 0; b < brideCount; b++) {
                if (!has(marriedBrides, b) && at(sentYears, b) <= n) {
                    bits |= 1 << b;
                }
            }
            return bits;
        }

        int shows(int bride, int n) {
            return showsAs(bride, at(kinds, bride), at(figures, bride), n);
        }

        /** What she would show in so many years, were she of this kind and figure. */
        int showsAs(int bride, int kind, int figure, int n) {
            int own = at(feet, bride);
            int sisters = bride > 0 ? at(feet, bride - 1) : own;
            int feigned = own ^ 1 << figure % TOES;
            int chapped = (year + n) % 2 == 1 ? feigned : own;
            switch (kind) {
                case SISTER:
                    return sisters;
                case FEIGNER:
                    return feigned;
                case CHAPPED:
                    return chapped;
                case TWIN:
                    return sisters ^ own;
                case MASKED:
                    return chapped & ~MASK;
                default:
                    return own;
            }
        }

        int guesses(int groom, int n) {
            return guessesBy(groom, at(lookBits, groom), n);
        }

        /** Whom he would guess in so many years, did he look at these toes. */
        int guessesBy(int groom, int look, int n) {
            int wanted = at(mindFeet, groom) & look;
            int here = hereThen(n);
            int bits = 0;
            for (int b = 0; b < brideCount; b++) {
                int shown = showsAs(b, at(kinds, b), at(figures, b), n);
                if (has(here, b) && (shown & look) == wanted) {
                    bits |= 1 << b;
                }
            }
            return bits;
        }

        int knows(int groom, int n) {
            return onlyOne(guessesBy(groom, at(lookBits, groom), n));
        }

        int knownBits() {
            int bits = 0;
            for (int g = 0; g < groomCount; g++) {
                int one = isUnmarried(g) ? knows(g, 0) : NONE;
                if (one != NONE) {
                    bits |= 1 << one;
                }
            }
            return bits;
        }

        boolean canWed(int groom) {
            return hasGroom(groom) && isUnmarried(groom) && hereThen(0) != 0;
        }

        /** Those of whom he takes one, if he has to: his guesses, without any all who are here. */
        int choiceOf(int groom) {
            return choiceFrom(guesses(groom, 0));
        }

        private int choiceFrom(int guessed) {
            return guessed != 0 ? guessed : hereThen(0);
        }

        /** Whom he would take at a wedding now, had he drunk so much. */
        int takenWith(int groom, int liquor) {
            int guessed = guesses(groom, 0);
            if (!canWed(groom) || onlyOne(guessed) != NONE) {
                return NONE;
            }
            return takenOf(choiceFrom(guessed), liquor);
        }

        private static int takenOf(int choice, int liquor) {
            int many = Integer.bitCount(choice);
            return many == 0 ? NONE : bitAt(choice, liquor % many);
        }

        /** Only for one who can wed: MARRIES and the bride he marries, or the one sent home. */
        int wed(int groom) {
            int liquor = at(liquors, groom);
            int guessed = guessesBy(groom, at(lookBits, groom), 0);
            int one = onlyOne(guessed);
            if (one != NONE) {
                put(sentYears, one, 1 + liquor / 3);
                return one;
            }
            int taken = takenOf(choiceFrom(guessed), liquor);
            if (taken == NONE) {
                return NONE;
            }
            marriedBrides |= 1 << taken;
            marriedGrooms |= 1 << groom;
            return MARRIES + taken;
        }

        /** All weddings that can be, by grooms: how many marry (what 0), or are sent home. */
        int wedAll(int what) {
            int marry = 0;
            int sent = 0;
            for (int g = 0; g < groomCount; g++) {
                if (canWed(g)) {
                    if (wed(g) >= MARRIES) {
                        marry++;
                    } else {
                        sent++;
                    }
                }
            }
            return what == 0 ? marry : sent;
        }

        int toesFromMind(int groom, int bride) {
            return Integer.bitCount(footOf(bride) ^ mindOf(groom));
        }

        int nearestTo(int groom) {
            int nearest = NONE;
            int fewest = TOES + 1;
            for (int b = 0; b < brideCount; b++) {
                int toes = toesFromMind(groom, b);
                if (toes < fewest) {
                    fewest = toes;
                    nearest = b;
                }
            }
            return nearest;
        }

        int allLiquor() {
            int sum = 0;
            for (int g = 0; g < groomCount; g++) {
                sum += liquorOf(g);
            }
            return sum;
        }

        /** Answers the seed for the next draw. */
        int drawFeetAndMinds(int seed) {
            int z = seed;
            for (int b = 0; b < brideCount; b++) {
                z = nextSeed(z);
                put(feet, b, drawnFoot(z));
            }
            for (int g = 0; g < groomCount; g++) {
                z = nextSeed(z);
                setMind(g, drawnFoot(z));
            }
            return z;
        }

        private static int nextSeed(int z) {
            return z * 1664525 + 1013904223;
        }

        private static int drawnFoot(int z) {
            return (z & WITHOUT_SIGN) / 256 % (WHOLE_FOOT + 1);
        }
    }

    /** The letters that have come, and how they tell of a valley. */
    private static final class Text {
        private static final String KIND_LETTERS = "bsfctm";

        private final int[] letters = new int[MOST_LETTERS];
        int size;

        boolean isFull() {
            return size >= MOST_LETTERS;
        }

        int add(int c) {
            put(letters, size, c);
            size++;
            return size;
        }

        void empty() {
            size = 0;
        }

        /** Tells all to a valley: how many statements, or the fault; then the valley is not to be used. */
        int tellTo(Valley valley) {
            int fault = formFault();
            if (fault != NO_FAULT) {
                return -1000 - fault;
            }
            int told = 0;
            int place = 0;
            while (place < size) {
                if (!tell(valley, place)) {
                    return -2000 - place;
                }
                place += 1 + formOf(at(letters, place)).length();
                told++;
            }
            return told;
        }

        /** The place of the first letter with which no valley can go on, or NO_FAULT. */
        private int formFault() {
            if (size == 0) {
                return 0;
            }
            int place = 0;
            while (place < size) {
                String form = formOf(at(letters, place));
                if (form.isEmpty()) {
                    return place;
                }
                place++;
                for (int i = 0; i < form.length(); i++) {
                    if (place >= size || !fits(at(letters, place), form.charAt(i))) {
                        return place;
                    }
                    place++;
                }
            }
            return NO_FAULT;
        }

        /** What follows the first letter of a statement: k a kind's letter, 9 a digit; empty if none begins so. */
        private static String formOf(int letter) {
            switch (letter) {
                case 'b':
                    return "k999;";
                case 'g':
                    return "9999;";
                case 't':
                case 'l':
                case 'y':
                    return "99;";
                case 'w':
                    return "9;";
                default:
                    return "";
            }
        }

        private static boolean fits(int letter, char wanted) {
            switch (wanted) {
                case 'k':
                    return KIND_LETTERS.indexOf((char) letter) >= 0;
                case '9':
                    return letter >= '0' && letter <= '9';
                default:
                    return letter == wanted;
            }
        }

        /** Whether the statement at this place is as it must be; then it has come. */
        private boolean tell(Valley valley, int place) {
            int first = digitAt(place + 1);
            int second = digitAt(place + 2);
            switch (at(letters, place)) {
                case 'b':
                    return valley.addBride(kindAt(place + 1), second, numberAt(place + 3));
                case 'g':
                    return valley.addGroom(numberAt(place + 1), numberAt(place + 3));
                case 't':
                    return tellToe(valley, first, second);
                case 'l':
                    return tellLiquor(valley, first, second);
                case 'w':
                    return valley.canWed(first) && valley.wed(first) != NONE;
                default:
                    return tellYears(valley, numberAt(place + 1));
            }
        }

        private static boolean tellToe(Valley valley, int bride, int toe) {
            if (!valley.hasBride(bride) || toe >= TOES) {
                return false;
            }
            valley.changeToes(bride, 1 << toe);
            return true;
        }

        private static boolean tellLiquor(Valley valley, int groom, int liquor) {
            if (!valley.hasGroom(groom)) {
                return false;
            }
            valley.setLiquor(groom, liquor);
            return true;
        }

        private static boolean tellYears(Valley valley, int n) {
            if (n < 1 || n > MOST_YEARS || !valley.canPass(n)) {
                return false;
            }
            valley.passYears(n);
            return true;
        }

        private int kindAt(int place) {
            return KIND_LETTERS.indexOf((char) at(letters, place));
        }

        private int digitAt(int place) {
            return at(letters, place) - '0';
        }

        private int numberAt(int place) {
            return 10 * digitAt(place) + digitAt(place + 1);
        }
    }

    /** Numbers told one by one, and what they are held against. */
    private static final class Row {
        private final int[] told = new int[MOST_NUMBERS];
        int size;

        boolean isFull() {
            return size >= MOST_NUMBERS;
        }

        int add(int v) {
            put(told, size, v);
            size++;
            return size;
        }

        void empty() {
            size = 0;
        }

        int howManyToesOf(int foot) {
            int right = 0;
            for (int i = 0; i < size; i++) {
                if (has(foot, at(told, i))) {
                    right++;
                }
            }
            return right;
        }

        /** The first groom who has not so many guesses as told (nobody, too); NONE if all is right. */
        int firstWrongGuess(Valley valley) {
            for (int i = 0; i < size; i++) {
                boolean isSo = valley.hasGroom(i)
                        && Integer.bitCount(valley.guesses(i, 0)) == at(told, i);
                if (!isSo) {
                    return i;
                }
            }
            return NONE;
        }

        int kindsOf(Valley valley, int bride) {
            int bits = 0;
            for (int kind = 0; kind < KINDS; kind++) {
                if (isShownAs(valley, bride, kind, valley.figureOf(bride))) {
                    bits |= 1 << kind;
                }
            }
            return bits;
        }

        int figuresOf(Valley valley, int bride) {
            int bits = 0;
            for (int figure = 0; figure <= GREATEST_DIGIT; figure++) {
                if (isShownAs(valley, bride, valley.kindOf(bride), figure)) {
                    bits |= 1 << figure;
                }
            }
            return bits;
        }

        private boolean isShownAs(Valley valley, int bride, int kind, int figure) {
            for (int i = 0; i < size; i++) {
                if (valley.showsAs(bride, kind, figure, i) != at(told, i)) {
                    return false;
                }
            }
            return true;
        }
    }

    /** The most brides and grooms two by two of whom no groom knows his. */
    private static final class Pairs {
        private final int[] mayHave = new int[MOST_GROOMS];
        private int groomCount;

        void look(Valley valley) {
            groomCount = valley.groomCount;
            for (int g = 0; g < groomCount; g++) {
                put(mayHave, g, valley.isUnmarried(g) ? notKnownTo(valley, g) : 0);
            }
        }

        private static int notKnownTo(Valley valley, int groom) {
            int one = valley.knows(groom, 0);
            int here = valley.hereThen(0);
            return one == NONE ? here : here & ~(1 << one);
        }

        /**
         * The most pairs of this groom and those behind him with brides not used yet. By Hall's
         * theorem, as Ore counts it: some set of grooms, less all brides whom any of them may
         * have, is how many must stay alone, and the greatest such is how many do.
         */
        int most(int firstGroom, int used) {
            int grooms = Math.max(0, groomCount - firstGroom);
            int most = grooms;
            for (int set = 0; set < 1 << grooms; set++) {
                int brides = Integer.bitCount(mayHaveAny(set, firstGroom) & ~used);
                most = Math.min(most, grooms - Integer.bitCount(set) + brides);
            }
            return most;
        }

        private int mayHaveAny(int set, int firstGroom) {
            int bits = 0;
            for (int i = 0; i < MOST_GROOMS; i++) {
                if (has(set, i)) {
                    bits |= at(mayHave, firstGroom + i);
                }
            }
            return bits;
        }

        int partnerOf(int groom) {
            int used = 0;
            int partner = NONE;
            for (int g = 0; g <= groom && g < groomCount; g++) {
                partner = firstPartner(g, used);
                if (partner != NONE) {
                    used |= 1 << partner;
                }
            }
            return partner;
        }

        /** The least bride with whom he spoils nothing, if those ahead of him have the used ones. */
        private int firstPartner(int groom, int used) {
            int wanted = most(groom, used);
            for (int b = 0; b < MOST_BRIDES; b++) {
                boolean mayHaveHer = has(at(mayHave, groom) & ~used, b);
                if (mayHaveHer && 1 + most(groom + 1, used | 1 << b) == wanted) {
                    return b;
                }
            }
            return NONE;
        }
    }

    /** What would keep brides from being known. */
    private static final class Hiding {

        static int fewestToes(Valley now, Valley thought, int bride) {
            for (int toes : FEWEST_FIRST) {
                thought.become(now);
                thought.changeToes(bride, toes);
                if (!has(thought.knownBits(), bride)) {
                    return toes;
                }
            }
            return NONE;
        }

        static int fewestForgotten(Valley now, int groom) {
            int look = now.lookOf(groom);
            for (int toes : FEWEST_FIRST) {
                boolean looksAtAll = (toes & ~look) == 0;
                if (looksAtAll && onlyOne(now.guessesBy(groom, look & ~toes, 0)) == NONE) {
                    return toes;
                }
            }
            return NONE;
        }

        static int bestAway(Valley now, Valley thought) {
            int fewest = Integer.bitCount(now.knownBits());
            int best = NONE;
            for (int b = 0; b < now.brideCount; b++) {
                if (now.isHere(b)) {
                    thought.become(now);
                    thought.sendHome(b, 1);
                    int many = Integer.bitCount(thought.knownBits());
                    if (many < fewest) {
                        fewest = many;
                        best = b;
                    }
                }
            }
            return best;
        }

        /** The first pair of changes by which neither bride has less by another one alone. */
        static int firstRest(Valley now, Valley thought, int a, int b) {
            for (int x = 0; x <= 1; x++) {
                for (int y = 0; y <= 1; y++) {
                    change(now, thought, a, x, b, y);
                    int costOfA = costOf(thought, a);
                    int costOfB = costOf(thought, b);
                    change(now, thought, a, 1 - x, b, y);
                    boolean aRests = costOfA <= costOf(thought, a);
                    change(now, thought, a, x, b, 1 - y);
                    boolean bRests = costOfB <= costOf(thought, b);
                    if (aRests && bRests) {
                        return 10 * x + y;
                    }
                }
            }
            return NONE;
        }

        private static void change(Valley now, Valley thought, int a, int x, int b, int y) {
            thought.become(now);
            thought.changeToes(a, x);
            thought.changeToes(b, y);
        }

        private static int costOf(Valley valley, int bride) {
            int cost = 0;
            for (int g = 0; g < valley.groomCount; g++) {
                int guessed = valley.isUnmarried(g) ? valley.guesses(g, 0) : 0;
                if (onlyOne(guessed) == bride) {
                    cost += 10;
                }
                if (has(guessed, bride)) {
                    cost--;
                }
            }
            return cost;
        }
    }

    /** Which brides who are here show the same. */
    private static final class Likeness {

        private static boolean areAlike(Valley valley, int a, int b, int look) {
            return valley.isHere(a) && valley.isHere(b)
                    && (valley.shows(a, 0) & look) == (valley.shows(b, 0) & look);
        }

        static int twos(Valley valley) {
            int twos = 0;
            for (int a = 0; a < valley.brideCount; a++) {
                for (int b = a + 1; b < valley.brideCount; b++) {
                    if (areAlike(valley, a, b, WHOLE_FOOT)) {
                        twos++;
                    }
                }
            }
            return twos;
        }

        static int firstTwo(Valley valley) {
            return firstTwoBy(valley, WHOLE_FOOT);
        }

        private static int firstTwoBy(Valley valley, int look) {
            for (int a = 0; a < valley.brideCount; a++) {
                for (int b = a + 1; b < valley.brideCount; b++) {
                    if (areAlike(valley, a, b, look)) {
                        return 10 * a + b;
                    }
                }
            }
            return NONE;
        }

        private static int howManyShow(Valley valley, int foot) {
            int many = 0;
            for (int b = 0; b < valley.brideCount; b++) {
                if (valley.isHere(b) && valley.shows(b, 0) == foot) {
                    many++;
                }
            }
            return many;
        }

        static int greatest(Valley valley) {
            int most = 0;
            for (int foot = 0; foot <= WHOLE_FOOT; foot++) {
                most = Math.max(most, howManyShow(valley, foot));
            }
            return most;
        }

        static int greatestShown(Valley valley) {
            int most = 0;
            int shown = NONE;
            for (int foot = 0; foot <= WHOLE_FOOT; foot++) {
                int many = howManyShow(valley, foot);
                if (many > most) {
                    most = many;
                    shown = foot;
                }
            }
            return shown;
        }

        static int tellingToe(Valley valley) {
            int best = 0;
            int nearest = MOST_BRIDES + 1;
            for (int toe = 0; toe < TOES; toe++) {
                int apart = howFarApart(valley, toe);
                if (apart < nearest) {
                    nearest = apart;
                    best = toe;
                }
            }
            return best;
        }

        private static int howFarApart(Valley valley, int toe) {
            int more = 0;
            for (int b = 0; b < valley.brideCount; b++) {
                if (valley.isHere(b)) {
                    more += has(valley.shows(b, 0), toe) ? 1 : -1;
                }
            }
            return Math.abs(more);
        }

        static int fewestLooks(Valley valley) {
            for (int look : FEWEST_FIRST) {
                if (firstTwoBy(valley, look) == NONE) {
                    return look;
                }
            }
            return NONE;
        }
    }

    /** Fractions in least terms: part 0 above the line, 1 below. */
    private static final class Odds {

        static long ofTaking(Valley valley, int bride, int n, int part) {
            long ways = 1;
            long missing = 1;
            int asked = 0;
            for (int g = 0; g < valley.groomCount; g++) {
                if (valley.isUnmarried(g) && asked < n) {
                    asked++;
                    int choice = valley.choiceOf(g);
                    int many = Integer.bitCount(choice);
                    ways *= Math.max(1, many);
                    missing *= has(choice, bride) ? many - 1 : Math.max(1, many);
                }
            }
            return partOf(ways - missing, ways, part);
        }

        static long meanToes(Valley valley, int part) {
            long sum = 0;
            for (int b = 0; b < valley.brideCount; b++) {
                sum += Integer.bitCount(valley.footOf(b));
            }
            return partOf(sum, Math.max(1, valley.brideCount), part);
        }

        private static long partOf(long above, long below, int part) {
            long divisor = greatestDivisor(above, below);
            if (divisor == 0) {
                return part;
            }
            return (part == 0 ? above : below) / divisor;
        }

        /** Numbers of a long have under a hundred remainders one behind the other. */
        private static long greatestDivisor(long a, long b) {
            long greater = a;
            long lesser = b;
            for (int i = 0; i < 100 && lesser != 0; i++) {
                long rest = greater % lesser;
                greater = lesser;
                lesser = rest;
            }
            return greater;
        }
    }
}
