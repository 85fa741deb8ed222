import java.util.ArrayList;
import java.util.List;

/** Bottles that were laid down with what was said round them, and the guests they are poured to. */
public final class LaidQuarrel {
    public static final int NONE = -1, BAD = -2, STATE = -3, FULL = -4;
    public static final long NO = Long.MIN_VALUE;

    // -1 and its like are themselves MOODS and sayings, so there other numbers stand for the refusals
    private static final int FAR_NONE = -10001, FAR_BAD = -10002, FAR_STATE = -10003, FAR_NOTHING = -10005;
    private static final int NOTHING = -5, OTHER_KIND = -6;

    private static final int HARD = 1, SWEET = 2, CORKED = 3, FEUD = 4, LOVE = 5, TOLD = 6;
    private static final int BOTTLES = 6, GUESTS = 4, CELLARS = 5, SIGNS = 100, CLAUSES = 10, OPEN = 5;
    private static final int SEEN = 5, EVENING = 8, BOOK = 8, BODIES = 20;
    private static final int QUARTERS = 4, OLDEST = 199, LAST_YEAR = 9999, AHEAD = 60;
    private static final int MOOD = 99, WORD = 99, SAYING = 999;
    private static final int YEAR_GOES = 0, POURS = 1, TURNS = 2, HUSHES = 3;

    private final Shelf tape = new Shelf(1, SIGNS);
    private final Shelf moods = new Shelf(1, GUESTS);
    private final Shelf triedMoods = new Shelf(1, GUESTS);
    private final Shelf seen = new Shelf(3, SEEN);
    private final Shelf evenings = new Shelf(3, EVENING);
    private final Shelf books = new Shelf(2, BOOK);
    private final Shelf bodies = new Shelf(1, BODIES);
    private final Shelf said = new Shelf(1, BOTTLES);
    private final Shelf mostPairs = new Shelf(1, 1 << BOTTLES);
    private final Cellar held = new Cellar(tape);
    private final Cellar fresh = new Cellar(tape);
    private final List<Bottle> bottles = new ArrayList<>();
    private int cellars;
    private int year;
    private int keptBottles = NONE;
    private int keptCellars;
    private int keptYear;

    public LaidQuarrel() {
    }

    // ---- cellars, bottles, guests

    public int feed(int sign) {
        if (!within(sign, 0, 127)) {
            return BAD;
        }
        return added(tape, sign, 0, 0);
    }

    public int cellar() {
        if (cellars >= CELLARS) {
            return FULL;
        }
        int fault = fresh.readText();
        tape.clear();
        if (fault >= 0) {
            return -10 - fault;
        }
        held.copyFrom(fresh);
        cellars++;
        return cellars - 1;
    }

    public int bottle(int kind, int v, int word) {
        if (!within(kind, 0, TOLD)) {
            return NONE;
        }
        if (!within(v, 0, 9) || !within(word, -WORD, WORD)) {
            return BAD;
        }
        if (bottles.size() >= BOTTLES) {
            return FULL;
        }
        Bottle one = madeOf(kind);
        one.now.v = v;
        one.now.word = word;
        bottles.add(one);
        return one.number;
    }

    public int guest(int mood) {
        if (!within(mood, -MOOD, MOOD)) {
            return BAD;
        }
        return moods.add(mood, 0, 0) ? moods.rows - 1 : FULL;
    }

    public int of(int bottle, int what) {
        Bottle one = bottleAt(bottle);
        if (one == null) {
            return FAR_NONE;
        }
        switch (what) {
            case 0: return one.kind;
            case 1: return one.now.v;
            case 2: return one.now.word;
            case 3: return one.now.years;
            case 4: return one.now.quarter;
            case 5: return one.now.empty ? 1 : 0;
            case 6: return held.softOf(one, one.now);
            case 7: return says(one, one.now);
            default: return FAR_NONE;
        }
    }

    public int row(int bottle, int k, int n) {
        Bottle one = bottleAt(bottle);
        if (one == null || !within(k, 0, QUARTERS - 1)) {
            return NONE;
        }
        if (!within(n, 0, 9)) {
            return BAD;
        }
        if (one.kind != TOLD) {
            return STATE;
        }
        return one.now.tell(k, n);
    }

    public int set(int bottle, int what, int n) {
        Bottle one = bottleAt(bottle);
        if (one == null || !within(what, 0, 1)) {
            return NONE;
        }
        if (!within(n, 0, what == 0 ? OLDEST : QUARTERS - 1)) {
            return BAD;
        }
        int was = what == 0 ? one.now.years : one.now.quarter;
        if (what == 0) {
            one.now.years = n;
        } else {
            one.now.quarter = n;
        }
        return was;
    }

    public int mood(int guest) {
        return isGuest(guest) ? moods.at(guest, 0) : FAR_NONE;
    }

    public int told(int what) {
        switch (what) {
            case 0: return year;
            case 1: return held.calm();
            case 2: return held.peace();
            case 3: return fullOnes();
            case 4: return allSay(0);
            case 5: return sum(moods);
            default: return FAR_NONE;
        }
    }

    public int pour(int bottle, int guest) {
        Bottle one = bottleAt(bottle);
        if (one == null || !isGuest(guest)) {
            return FAR_NONE;
        }
        if (one.now.empty) {
            return FAR_STATE;
        }
        one.now.empty = true;
        return lift(moods, guest, says(one, one.now));
    }

    public int both(int one, int other, int guest) {
        Bottle first = bottleAt(one);
        Bottle second = bottleAt(other);
        if (first == null || second == null || !isGuest(guest)) {
            return FAR_NONE;
        }
        if (one == other) {
            return FAR_BAD;
        }
        if (first.now.empty || second.now.empty) {
            return FAR_STATE;
        }
        first.now.empty = true;
        second.now.empty = true;
        return lift(moods, guest, (says(first, first.now) + says(second, second.now)) / 2);
    }

    public int pass(int n) {
        if (!within(n, 0, AHEAD)) {
            return BAD;
        }
        if (year + n > LAST_YEAR) {
            return STATE;
        }
        for (int b = 0; b < bottles.size(); b++) {
            bottles.get(b).now.age(n);
        }
        calmDown(moods, n);
        year += n;
        return year;
    }

    // ---- years to come

    public int on(int n, int what) {
        boolean ofAll = within(what, 0, 1);
        Bottle one = what >= 10 ? bottleAt(what - 10) : null;
        boolean ofGuest = what >= 20 && isGuest(what - 20);
        if (!ofAll && one == null && !ofGuest) {
            return FAR_NONE;
        }
        if (!within(n, 0, AHEAD)) {
            return FAR_BAD;
        }
        if (one != null) {
            return says(one, one.tryBehind(n));
        }
        if (what == 0) {
            return allSay(n);
        }
        triedMoods.copyFrom(moods);
        calmDown(triedMoods, n);
        return ofGuest ? triedMoods.at(what - 20, 0) : sum(triedMoods);
    }

    public int when(int bottle, int what) {
        Bottle one = bottleAt(bottle);
        if (one == null || !within(what, 0, 1)) {
            return FAR_NONE;
        }
        int behind = 0;
        int most = says(one, one.tryBehind(0));
        for (int n = 1; n <= AHEAD; n++) {
            int much = says(one, one.tryBehind(n));
            if (much > most) {
                most = much;
                behind = n;
            }
        }
        return what == 0 ? behind : most;
    }

    public int ripe(int bottle) {
        Bottle one = bottleAt(bottle);
        if (one == null) {
            return NONE;
        }
        for (int n = 0; n <= AHEAD; n++) {
            if (says(one, one.tryBehind(n)) >= 0) {
                return n;
            }
        }
        return NOTHING;
    }

    public int lies(int bottle) {
        Bottle one = bottleAt(bottle);
        if (one == null) {
            return NONE;
        }
        Laid tried = one.tryNow();
        tried.quarter = 0;
        int best = 0;
        int most = says(one, tried);
        for (int q = 1; q < QUARTERS; q++) {
            tried.quarter = q;
            int much = says(one, tried);
            if (much > most) {
                most = much;
                best = q;
            }
        }
        return best;
    }

    // ---- what to pour

    public int choose(int guest, int m) {
        if (!isGuest(guest)) {
            return NONE;
        }
        if (!within(m, -MOOD, MOOD)) {
            return BAD;
        }
        hearAll();
        int full = fullOnes();
        int best = NOTHING;
        int fewest = BOTTLES + 1;
        for (int bits = 0; bits <= full; bits++) {
            int many = Integer.bitCount(bits);
            if ((bits & full) == bits && many < fewest && moods.at(guest, 0) + saidBy(bits) == m) {
                fewest = many;
                best = bits;
            }
        }
        return best;
    }

    public int line(int guest, int k) {
        if (!isGuest(guest) || !within(k, -1, BOTTLES - 1)) {
            return FAR_NONE;
        }
        hearAll();
        int full = fullOnes();
        int best = bestLine(said, full, moods.at(guest, 0), 0);
        if (k < 0) {
            return moodOf(best);
        }
        int behind = Integer.bitCount(full) - 1 - k;
        return behind < 0 ? NOTHING : best >> 3 * behind & 7;
    }

    public int pair() {
        hearAll();
        int full = fullOnes();
        int best = NOTHING;
        int nearest = 0;
        for (int one = 0; one < bottles.size(); one++) {
            for (int other = one + 1; other < bottles.size(); other++) {
                int far = Math.abs(said.at(one, 0) + said.at(other, 0));
                if (isIn(full, one) && isIn(full, other) && (best == NOTHING || far < nearest)) {
                    nearest = far;
                    best = 10 * one + other;
                }
            }
        }
        return best;
    }

    public int match(int what) {
        boolean ofOne = what >= 10 && bottleAt(what - 10) != null;
        if (what != 0 && !ofOne) {
            return NONE;
        }
        hearAll();
        int full = fullOnes();
        countPairs(full);
        return ofOne ? partnerOf(what - 10, full) : mostPairs.at(full, 0);
    }

    public int words(int bottle, int s, int what) {
        Bottle one = bottleAt(bottle);
        if (one == null || !within(what, 0, 1)) {
            return FAR_NONE;
        }
        if (!within(s, -SAYING, SAYING)) {
            return FAR_BAD;
        }
        Laid tried = one.tryNow();
        int many = 0;
        int least = FAR_NOTHING;
        for (int word = WORD; word >= -WORD; word--) {
            tried.word = word;
            if (says(one, tried) == s) {
                many++;
                least = word;
            }
        }
        return what == 0 ? many : least;
    }

    // ---- seen, odds; part 0 above, 1 below the line

    public int see(int bottle, int says, int n) {
        if (bottle == -1) {
            seen.clear();
            return 0;
        }
        if (bottleAt(bottle) == null) {
            return NONE;
        }
        if (!within(says, -SAYING, SAYING) || !within(n, 0, 20)) {
            return BAD;
        }
        return added(seen, bottle, says, n);
    }

    public int old(int bottle, int what) {
        Bottle one = bottleAt(bottle);
        if (one == null || !within(what, 0, 1)) {
            return NONE;
        }
        int many = 0;
        int least = NOTHING;
        for (int years = 99; years >= 0; years--) {
            if (allSeenIsSo(bottle, years, one.now.v)) {
                many++;
                least = years;
            }
        }
        return what == 0 ? many : least;
    }

    public int firm(int bottle, int what) {
        Bottle one = bottleAt(bottle);
        if (one == null || !within(what, 0, 1)) {
            return NONE;
        }
        int many = 0;
        int least = NOTHING;
        for (int v = 9; v >= 0; v--) {
            if (allSeenIsSo(bottle, one.now.years, v)) {
                many++;
                least = v;
            }
        }
        return what == 0 ? many : least;
    }

    public int whose(int s, int n) {
        if (!within(s, -SAYING, SAYING) || !within(n, 0, 40)) {
            return BAD;
        }
        int bits = 0;
        for (int b = 0; b < bottles.size(); b++) {
            Bottle one = bottles.get(b);
            if (says(one, one.tryBehind(n)) == s) {
                bits |= 1 << b;
            }
        }
        return bits;
    }

    public long odds(int guest, int m, int part) {
        if (!isGuest(guest) || !within(m, -MOOD, MOOD)) {
            return NO;
        }
        int likely = 0;
        for (int b = 0; b < bottles.size(); b++) {
            Bottle one = bottles.get(b);
            if (!one.now.empty && heldMood(moods.at(guest, 0) + says(one, one.now)) >= m) {
                likely++;
            }
        }
        return fraction(likely, Integer.bitCount(fullOnes()), part);
    }

    public long mean(int n, int part) {
        if (!within(n, 0, AHEAD)) {
            return NO;
        }
        return fraction(allSay(n), Integer.bitCount(fullOnes()), part);
    }

    // ---- evenings, books

    public int evening(int what, int bottle, int guest) {
        if (what == -1) {
            evenings.clear();
            return 0;
        }
        if (!within(what, YEAR_GOES, HUSHES)
                || what != YEAR_GOES && bottleAt(bottle) == null
                || what == POURS && !isGuest(guest)) {
            return NONE;
        }
        return added(evenings, what, bottle, guest);
    }

    public int done(int what) {
        if (!within(what, 0, 1)) {
            return FAR_NONE;
        }
        triedMoods.copyFrom(moods);
        for (int b = 0; b < bottles.size(); b++) {
            bottles.get(b).tryNow();
        }
        for (int r = 0; r < evenings.rows; r++) {
            tryRow(evenings.at(r, 0), bottleAt(evenings.at(r, 1)), evenings.at(r, 2));
        }
        return what == 0 ? sum(triedMoods) : allSayAsTried();
    }

    public int book(int bottle, int says) {
        if (bottle == -1) {
            books.clear();
            return 0;
        }
        if (bottleAt(bottle) == null) {
            return NONE;
        }
        if (!within(says, -SAYING, SAYING)) {
            return BAD;
        }
        return added(books, bottle, says, 0);
    }

    public int looked() {
        for (int r = 0; r < books.rows; r++) {
            Bottle one = bottleAt(books.at(r, 0));
            if (one != null && says(one, one.now) != books.at(r, 1)) {
                return r;
            }
        }
        return NOTHING;
    }

    // ---- acts, the image

    public int act(int bottle, int act, int x) {
        bodies.clear();
        Bottle one = bottleAt(bottle);
        if (one == null) {
            return 0;
        }
        switch (act) {
            case 0: return one.utters(x);
            case 1: return one.keeps(x);
            case 2: return one.tells(x);
            default: return 0;
        }
    }

    public int trace(int i) {
        return within(i, 0, bodies.rows - 1) ? bodies.at(i, 0) : NONE;
    }

    public int as(int bottle, int k) {
        Bottle one = bottleAt(bottle);
        if (one == null || !within(k, 0, TOLD)) {
            return NONE;
        }
        boolean isOne = k == one.kind || k == kindAbove(one.kind) || k == 0;
        return isOne ? one.now.v : OTHER_KIND;
    }

    public int image() {
        tape.keep();
        moods.keep();
        seen.keep();
        evenings.keep();
        books.keep();
        held.keep();
        for (int b = 0; b < bottles.size(); b++) {
            bottles.get(b).keep();
        }
        keptBottles = bottles.size();
        keptCellars = cellars;
        keptYear = year;
        return keptBottles;
    }

    public int undo() {
        if (keptBottles < 0) {
            return STATE;
        }
        tape.restore();
        moods.restore();
        seen.restore();
        evenings.restore();
        books.restore();
        held.restore();
        // a BOTTLE never goes but here, so those that the image knows are still the first ones
        for (int b = bottles.size() - 1; b >= keptBottles; b--) {
            bottles.remove(b);
        }
        for (int b = 0; b < bottles.size(); b++) {
            bottles.get(b).restore();
        }
        cellars = keptCellars;
        year = keptYear;
        return bottles.size();
    }

    public int count(int what) {
        switch (what) {
            case 0: return bottles.size();
            case 1: return cellars;
            case 2: return seen.rows;
            case 3: return evenings.rows;
            case 4: return books.rows;
            case 5: return tape.rows;
            // no act runs more than seven bodies, so all are kept
            case 6: return bodies.rows;
            case 7: return moods.rows;
            default: return NONE;
        }
    }

    // ---- what the calls share

    private static boolean within(int n, int least, int greatest) {
        return n >= least && n <= greatest;
    }

    private static boolean isIn(int bits, int n) {
        return (bits >> n & 1) == 1;
    }

    private static int nearer(int n, int by) {
        return n < 0 ? Math.min(0, n + by) : Math.max(0, n - by);
    }

    private static int heldMood(int mood) {
        return Math.max(-MOOD, Math.min(MOOD, mood));
    }

    private static int kindAbove(int kind) {
        return kind > CORKED ? kind - CORKED : 0;
    }

    private static int added(Shelf shelf, int first, int second, int third) {
        return shelf.add(first, second, third) ? shelf.rows : FULL;
    }

    private static int sum(Shelf numbers) {
        int sum = 0;
        for (int r = 0; r < numbers.rows; r++) {
            sum += numbers.at(r, 0);
        }
        return sum;
    }

    /** A part of a fraction in lowest terms; NO if nothing is below the line. */
    private static long fraction(int above, int below, int part) {
        if (below < 1 || !within(part, 0, 1)) {
            return NO;
        }
        int whole = part == 0 ? above : below;
        for (int by = below; by > 1; by--) {
            if (above % by == 0 && below % by == 0) {
                return whole / by;
            }
        }
        return whole;
    }

    private boolean isGuest(int n) {
        return n >= 0 && n < moods.rows;
    }

    private Bottle bottleAt(int n) {
        return n >= 0 && n < bottles.size() ? bottles.get(n) : null;
    }

    private Bottle madeOf(int kind) {
        int number = bottles.size();
        switch (kind) {
            case HARD: return new Hard(kind, number, bodies);
            case SWEET: return new Sweet(kind, number, bodies);
            case CORKED: return new Corked(kind, number, bodies);
            case FEUD: return new Feud(kind, number, bodies);
            case LOVE: return new Love(kind, number, bodies);
            case TOLD: return new Told(kind, number, bodies);
            default: return new Bottle(kind, number, bodies);
        }
    }

    private int says(Bottle one, Laid laid) {
        return one.spoken(laid, held.softOf(one, laid));
    }

    /** What all that are not EMPTY SAY behind n YEARS, together. */
    private int allSay(int n) {
        int sum = 0;
        for (int b = 0; b < bottles.size(); b++) {
            Bottle one = bottles.get(b);
            if (!one.now.empty) {
                sum += says(one, one.tryBehind(n));
            }
        }
        return sum;
    }

    /** Those that are not EMPTY, as bits. */
    private int fullOnes() {
        int bits = 0;
        for (int b = 0; b < bottles.size(); b++) {
            if (!bottles.get(b).now.empty) {
                bits |= 1 << b;
            }
        }
        return bits;
    }

    /** Sets down what each SAYS now, for the calls that need it many times. */
    private void hearAll() {
        said.clear();
        for (int b = 0; b < bottles.size(); b++) {
            Bottle one = bottles.get(b);
            said.add(says(one, one.now), 0, 0);
        }
    }

    private int saidBy(int bits) {
        int sum = 0;
        for (int b = 0; b < said.rows; b++) {
            if (isIn(bits, b)) {
                sum += said.at(b, 0);
            }
        }
        return sum;
    }

    private static int lift(Shelf guests, int guest, int by) {
        int mood = heldMood(guests.at(guest, 0) + by);
        guests.put(guest, mood);
        return mood;
    }

    private void calmDown(Shelf guests, int years) {
        int by = held.calm() * years;
        for (int g = 0; g < guests.rows; g++) {
            guests.put(g, nearer(guests.at(g, 0), by));
        }
    }

    /** The best order of those left: its last MOOD, and behind that three bits for each of the whole order. */
    private static int bestLine(Shelf said, int left, int mood, int order) {
        if (left == 0 || Integer.bitCount(left) > BOTTLES) {
            return mood + MOOD << 3 * BOTTLES | order;
        }
        int best = -1;
        for (int b = 0; b < said.rows; b++) {
            if (isIn(left, b)) {
                int line = bestLine(said, left ^ 1 << b, heldMood(mood + said.at(b, 0)), order << 3 | b);
                // orders come as rows do, so of as great ones the first stays
                if (best < 0 || moodOf(line) > moodOf(best)) {
                    best = line;
                }
            }
        }
        return best;
    }

    private static int moodOf(int line) {
        return (line >> 3 * BOTTLES) - MOOD;
    }

    /** Sets down for each set of those in the bits how many pairs can be made of it at most. */
    private void countPairs(int full) {
        mostPairs.clear();
        for (int bits = 0; bits <= full; bits++) {
            int one = Integer.numberOfTrailingZeros(bits);
            int rest = bits & bits - 1;
            int most = mostPairs.at(rest, 0);
            for (int other = one + 1; other < said.rows; other++) {
                if (isIn(rest, other) && makesPeace(one, other)) {
                    most = Math.max(most, 1 + mostPairs.at(rest ^ 1 << other, 0));
                }
            }
            mostPairs.add(most, 0, 0);
        }
    }

    private boolean makesPeace(int one, int other) {
        return Math.abs(said.at(one, 0) + said.at(other, 0)) <= held.peace();
    }

    /** Gives each one, from the least on, the least partner by which none of the pairs is lost. */
    private int partnerOf(int wanted, int full) {
        int left = full;
        for (int one = 0; one < said.rows; one++) {
            int partner = isIn(left, one) ? leastPartner(one, left) : NOTHING;
            if (one == wanted || partner == wanted) {
                return one == wanted ? partner : one;
            }
            left &= ~(1 << one);
            if (partner >= 0) {
                left ^= 1 << partner;
            }
        }
        return NOTHING;
    }

    private int leastPartner(int one, int left) {
        int rest = left ^ 1 << one;
        for (int other = one + 1; other < said.rows; other++) {
            if (isIn(rest, other) && makesPeace(one, other)
                    && 1 + mostPairs.at(rest ^ 1 << other, 0) == mostPairs.at(left, 0)) {
                return other;
            }
        }
        return NOTHING;
    }

    /** Whether all of SEEN is so, were these the YEARS and the v of one. */
    private boolean allSeenIsSo(int supposed, int years, int v) {
        for (int r = 0; r < seen.rows; r++) {
            int number = seen.at(r, 0);
            Bottle one = bottleAt(number);
            if (one != null) {
                Laid tried = one.tryNow();
                if (number == supposed) {
                    tried.years = years;
                    tried.v = v;
                }
                tried.age(seen.at(r, 2));
                if (says(one, tried) != seen.at(r, 1)) {
                    return false;
                }
            }
        }
        return true;
    }

    private void tryRow(int what, Bottle one, int guest) {
        if (what == YEAR_GOES) {
            for (int b = 0; b < bottles.size(); b++) {
                bottles.get(b).tried.age(1);
            }
            calmDown(triedMoods, 1);
        } else if (one != null && what == POURS && !one.tried.empty) {
            lift(triedMoods, guest, says(one, one.tried));
            one.tried.empty = true;
        } else if (one != null && what == TURNS) {
            one.tried.quarter = (one.tried.quarter + 1) % QUARTERS;
        } else if (one != null && what == HUSHES) {
            one.tried.word = 0;
        }
    }

    private int allSayAsTried() {
        int sum = 0;
        for (int b = 0; b < bottles.size(); b++) {
            Bottle one = bottles.get(b);
            if (!one.tried.empty) {
                sum += says(one, one.tried);
            }
        }
        return sum;
    }

    /** Rows of numbers, so many at most, with an image of them; where there is nothing it answers 0. */
    private static final class Shelf {
        final int width;
        final int[] cells;
        final int[] keptCells;
        int rows;
        int keptRows;

        Shelf(int width, int limit) {
            this.width = width;
            cells = new int[Math.max(0, width * limit)];
            keptCells = new int[cells.length];
        }

        /** A row comes, if there is room; what the width leaves no column for is dropped. */
        boolean add(int first, int second, int third) {
            int from = rows * width;
            if (from < 0 || from + width > cells.length) {
                return false;
            }
            for (int c = 0; c < width && from + c < cells.length; c++) {
                cells[from + c] = c == 0 ? first : c == 1 ? second : third;
            }
            rows++;
            return true;
        }

        int at(int row, int column) {
            if (row < 0 || row >= rows || column < 0 || column >= width) {
                return 0;
            }
            int i = row * width + column;
            return i >= 0 && i < cells.length ? cells[i] : 0;
        }

        void put(int row, int n) {
            int i = row * width;
            if (row >= 0 && row < rows && i >= 0 && i < cells.length) {
                cells[i] = n;
            }
        }

        void clear() {
            rows = 0;
        }

        void copyFrom(Shelf other) {
            rows = other.rows;
            copy(other.cells, cells);
        }

        void keep() {
            keptRows = rows;
            copy(cells, keptCells);
        }

        void restore() {
            rows = keptRows;
            copy(keptCells, cells);
        }

        private static void copy(int[] from, int[] to) {
            for (int i = 0; i < from.length && i < to.length; i++) {
                to[i] = from[i];
            }
        }
    }

    /** What a text of CLAUSES says, and the reading of it. */
    private static final class Cellar {
        private static final int CALM = 0, PEACE = 1, SOFTEN = 2, SHARPEN = 3;

        final Shelf text;
        // of each: which word, its n, where the parts of its E end
        final Shelf clauses = new Shelf(3, CLAUSES);
        // of each part: ! & | stand behind what they join, so that no E has to be gone into while it is asked
        final Shelf parts = new Shelf(3, SIGNS);
        int place;
        int number;

        Cellar(Shelf text) {
            this.text = text;
        }

        void copyFrom(Cellar other) {
            clauses.copyFrom(other.clauses);
            parts.copyFrom(other.parts);
        }

        void keep() {
            clauses.keep();
            parts.keep();
        }

        void restore() {
            clauses.restore();
            parts.restore();
        }

        int calm() {
            return lastOf(CALM, 0);
        }

        int peace() {
            return lastOf(PEACE, 5);
        }

        private int lastOf(int word, int without) {
            int n = without;
            for (int c = 0; c < clauses.rows; c++) {
                if (clauses.at(c, 0) == word) {
                    n = clauses.at(c, 1);
                }
            }
            return n;
        }

        int softOf(Bottle one, Laid laid) {
            int rate = 10;
            int from = 0;
            for (int c = 0; c < clauses.rows; c++) {
                int word = clauses.at(c, 0);
                int to = clauses.at(c, 2);
                if (word >= SOFTEN && holds(from, to, one, laid)) {
                    rate += word == SOFTEN ? clauses.at(c, 1) : -clauses.at(c, 1);
                }
                from = to;
            }
            return laid.years * Math.max(0, rate) / 20;
        }

        /** What waits to be joined stands as bits of one number, the newest lowest. */
        private boolean holds(int from, int to, Bottle one, Laid laid) {
            int waiting = 0;
            for (int p = from; p < to; p++) {
                switch (parts.at(p, 0)) {
                    case '!':
                        waiting ^= 1;
                        break;
                    case '&':
                        waiting = waiting >> 1 & (waiting | ~1);
                        break;
                    case '|':
                        waiting = waiting >> 1 | waiting & 1;
                        break;
                    default:
                        waiting = waiting << 1 | (testHolds(p, one, laid) ? 1 : 0);
                        break;
                }
            }
            return (waiting & 1) == 1;
        }

        private boolean testHolds(int part, Bottle one, Laid laid) {
            int fact = factOf(parts.at(part, 0), one, laid);
            int than = parts.at(part, 2);
            switch (parts.at(part, 1)) {
                case '<': return fact < than;
                case '>': return fact > than;
                default: return fact == than;
            }
        }

        private static int factOf(int letter, Bottle one, Laid laid) {
            switch (letter) {
                case 'b': return one.number;
                case 'k': return one.kind;
                case 'v': return laid.v;
                case 'y': return laid.years / 10;
                case 'q': return laid.quarter;
                default: return Math.abs(laid.word) / 10;
            }
        }

        /** -1, or the FAULT: each step looks at a byte before it goes on, so that is where a step stays. */
        int readText() {
            clauses.clear();
            parts.clear();
            place = 0;
            for (int c = 0; c < CLAUSES; c++) {
                if (!readClause()) {
                    return place;
                }
                if (place >= text.rows) {
                    return -1;
                }
                if (c == CLAUSES - 1 || !takes(';')) {
                    return place;
                }
            }
            return place;
        }

        private boolean readClause() {
            if (takes('c')) {
                return takesAll("alm ") && readNumber() && addClause(CALM, number);
            }
            if (takes('p')) {
                return takesAll("eace ") && readNumber() && addClause(PEACE, number);
            }
            if (!takes('s')) {
                return false;
            }
            int word = text.at(place, 0) == 'o' ? SOFTEN : SHARPEN;
            if (!takesAll(word == SOFTEN ? "often " : "harpen ") || !readNumber()) {
                return false;
            }
            int n = number;
            return takes(' ') && readEither(0) && addClause(word, n);
        }

        private boolean addClause(int word, int n) {
            return clauses.add(word, n, parts.rows);
        }

        /** An E, its T one behind the other; the bounds are those of a text that is all joints. */
        private boolean readEither(int open) {
            for (int t = 0; t < SIGNS; t++) {
                for (int f = 0; f < SIGNS; f++) {
                    if (!readFactor(open)) {
                        return false;
                    }
                    if (f > 0) {
                        parts.add('&', 0, 0);
                    }
                    if (!takes('&')) {
                        break;
                    }
                }
                if (t > 0) {
                    parts.add('|', 0, 0);
                }
                if (!takes('|')) {
                    return true;
                }
            }
            return false;
        }

        private boolean readFactor(int open) {
            int inside = open;
            for (int n = open; n < OPEN && takes('!'); n++) {
                inside++;
            }
            if (!(text.at(place, 0) == '(' ? readBracket(inside) : readTest())) {
                return false;
            }
            for (int n = open; n < inside; n++) {
                parts.add('!', 0, 0);
            }
            return true;
        }

        private boolean readBracket(int open) {
            return open < OPEN && takes('(') && readEither(open + 1) && takes(')');
        }

        private boolean readTest() {
            int letter = text.at(place, 0);
            if (!isLetter(letter)) {
                return false;
            }
            place++;
            int than = text.at(place, 0);
            if (than != '<' && than != '=' && than != '>') {
                return false;
            }
            place++;
            return readNumber() && parts.add(letter, than, number);
        }

        private static boolean isLetter(int sign) {
            return sign == 'b' || sign == 'k' || sign == 'v' || sign == 'y' || sign == 'q' || sign == 'w';
        }

        private boolean readNumber() {
            int first = text.at(place, 0);
            if (!within(first, '0', '9')) {
                return false;
            }
            place++;
            number = first - '0';
            int second = text.at(place, 0);
            if (first != '0' && within(second, '0', '9')) {
                place++;
                number = 10 * number + second - '0';
            }
            return true;
        }

        // behind its end a text answers 0, which is no sign of any CELLAR
        private boolean takes(int sign) {
            if (text.at(place, 0) != sign) {
                return false;
            }
            place++;
            return true;
        }

        private boolean takesAll(String signs) {
            for (int i = 0; i < signs.length(); i++) {
                if (!takes(signs.charAt(i))) {
                    return false;
                }
            }
            return true;
        }
    }

    /** How one of BOTTLES is laid down: all of it that can be otherwise, or be supposed so. */
    private static final class Laid {
        final int[] tellings = new int[QUARTERS];
        int v;
        int word;
        int years;
        int quarter;
        boolean empty;

        void copyFrom(Laid other) {
            v = other.v;
            word = other.word;
            years = other.years;
            quarter = other.quarter;
            empty = other.empty;
            Shelf.copy(other.tellings, tellings);
        }

        void age(int n) {
            if (!empty) {
                years = Math.min(OLDEST, years + n);
            }
        }

        int tell(int k, int n) {
            if (k < 0 || k >= tellings.length) {
                return NONE;
            }
            int was = tellings[k];
            tellings[k] = n;
            return was;
        }

        int telling() {
            return quarter >= 0 && quarter < tellings.length ? tellings[quarter] : 0;
        }
    }

    private static class Bottle {
        final int kind;
        final int number;
        final Shelf bodies;
        final Laid now = new Laid();
        final Laid kept = new Laid();
        final Laid tried = new Laid();

        Bottle(int kind, int number, Shelf bodies) {
            this.kind = kind;
            this.number = number;
            this.bodies = bodies;
        }

        void keep() {
            kept.copyFrom(now);
        }

        void restore() {
            now.copyFrom(kept);
        }

        /** As it is now, to be supposed otherwise. */
        Laid tryNow() {
            tried.copyFrom(now);
            return tried;
        }

        Laid tryBehind(int n) {
            tried.copyFrom(now);
            tried.age(n);
            return tried;
        }

        int spoken(Laid laid, int soft) {
            return nearer(laid.word, soft);
        }

        int utters(int x) {
            bodies.add(1, 0, 0);
            return x + number;
        }

        int keeps(int x) {
            bodies.add(2, 0, 0);
            return utters(x) - now.v;
        }

        int tells(int x) {
            bodies.add(3, 0, 0);
            return keeps(x) * 2;
        }
    }

    private static class Hard extends Bottle {
        Hard(int kind, int number, Shelf bodies) {
            super(kind, number, bodies);
        }

        int spoken(Laid laid, int soft) {
            return nearer(laid.word, soft / 2);
        }

        int utters(int x) {
            bodies.add(11, 0, 0);
            return super.utters(x * 3);
        }
    }

    private static class Sweet extends Bottle {
        Sweet(int kind, int number, Shelf bodies) {
            super(kind, number, bodies);
        }

        int spoken(Laid laid, int soft) {
            return nearer(laid.word, soft * 2);
        }

        int keeps(int x) {
            bodies.add(21, 0, 0);
            return -super.keeps(x);
        }
    }

    private static class Corked extends Bottle {
        Corked(int kind, int number, Shelf bodies) {
            super(kind, number, bodies);
        }

        int spoken(Laid laid, int soft) {
            int says = super.spoken(laid, soft);
            return laid.quarter % 2 == 1 ? -says : says;
        }

        int tells(int x) {
            bodies.add(31, 0, 0);
            return super.tells(x) ^ 7;
        }
    }

    private static final class Feud extends Hard {
        Feud(int kind, int number, Shelf bodies) {
            super(kind, number, bodies);
        }

        int spoken(Laid laid, int soft) {
            int says = super.spoken(laid, soft);
            return laid.years > 40 ? says - laid.v : says;
        }

        int tells(int x) {
            bodies.add(41, 0, 0);
            return super.tells(x - 1) + utters(2);
        }
    }

    private static final class Love extends Sweet {
        Love(int kind, int number, Shelf bodies) {
            super(kind, number, bodies);
        }

        int spoken(Laid laid, int soft) {
            int says = super.spoken(laid, soft);
            return laid.word > 0 && laid.years > 30 ? says - laid.v : says;
        }

        int utters(int x) {
            bodies.add(51, 0, 0);
            return super.utters(x) ^ number;
        }
    }

    private static final class Told extends Corked {
        Told(int kind, int number, Shelf bodies) {
            super(kind, number, bodies);
        }

        int spoken(Laid laid, int soft) {
            return super.spoken(laid, soft) + laid.telling();
        }

        int keeps(int x) {
            bodies.add(61, 0, 0);
            return super.keeps(x) + now.v;
        }
    }
}
