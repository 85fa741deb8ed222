import java.util.function.Supplier;

/** The edges that "Terms" 1 names of BOTTLES, GUESTS and YEARS, and those of promises 4 to 13. */
public final class EdgesOfBottlesTest {
    private static final String TERMS = "Terms 1";
    private static final int NONE = LaidQuarrel.NONE, BAD = LaidQuarrel.BAD, STATE = LaidQuarrel.STATE,
        FULL = LaidQuarrel.FULL;

    private static LaidQuarrel one(int kind, int v, int word) {
        LaidQuarrel x = new LaidQuarrel();
        x.bottle(kind, v, word);
        return x;
    }

    private static void bottlesAreSixAtMost() {
        Edge.of(TERMS, "BOTTLES are numbered from 0 on, 6 at most");
        LaidQuarrel x = new LaidQuarrel();
        Edge.due(x, -10001, "of", 0, 0);
        for (int b = 0; b < 6; b++) {
            Edge.due(x, b, "bottle", 6 - b, 0, 0);
            Edge.due(x, 6 - b, "of", b, 0);
            Edge.due(x, -10001, "of", b + 1, 0);
        }
        Edge.due(x, FULL, "bottle", 0, 0, 0);
        Edge.due(x, 6, "count", 0);
        Edge.due(x, -10001, "of", 6, 0);
        Edge.due(x, -10001, "of", -1, 0);
    }

    private static void kinds() {
        Edge.of(TERMS, "each of a KIND: 0 BOTTLE; 1 HARD, 2 SWEET, 3 CORKED under BOTTLE; 4 FEUD under HARD; "
            + "5 LOVE under SWEET; 6 TOLD under CORKED");
        int[] above = {-1, 0, 0, 0, 1, 2, 3};
        for (int kind = 0; kind <= 6; kind++) {
            LaidQuarrel x = one(kind, 7, 0);
            Edge.due(x, kind, "of", 0, 0);
            for (int k = 0; k <= 6; k++) {
                boolean is = k == kind || k == above[kind] || k == 0;
                Edge.due(x, is ? 7 : -6, "as", 0, k);
            }
        }
        Edge.due(new LaidQuarrel(), NONE, "bottle", -1, 0, 0);
        Edge.due(new LaidQuarrel(), NONE, "bottle", 7, 0, 0);
    }

    private static void whatBottlesHave() {
        Edge.of(TERMS, "a number v (0 .. 9)");
        Edge.due(one(0, 0, 5), 0, "of", 0, 1);
        Edge.due(one(0, 9, 5), 9, "of", 0, 1);
        Edge.due(new LaidQuarrel(), BAD, "bottle", 0, -1, 0);
        Edge.due(new LaidQuarrel(), BAD, "bottle", 0, 10, 0);
        Edge.of(TERMS, "a WORD (what was said: -99 .. 99; below 0 a quarrel)");
        for (int word : new int[] {-99, -98, -1, 0, 1, 98, 99}) {
            Edge.due(one(0, 0, word), word, "of", 0, 2);
            Edge.due(one(0, 0, word), word, "of", 0, 7);
        }
        Edge.due(new LaidQuarrel(), BAD, "bottle", 0, 0, -100);
        Edge.due(new LaidQuarrel(), BAD, "bottle", 0, 0, 100);
        Edge.of(TERMS, "YEARS (0 .. 199; 0 at first)");
        LaidQuarrel x = one(6, 9, 99);
        Edge.due(x, 0, "of", 0, 3);
        Edge.due(x, 0, "set", 0, 0, 199);
        Edge.due(x, 199, "of", 0, 3);
        Edge.due(x, BAD, "set", 0, 0, 200);
        Edge.due(x, 199, "set", 0, 0, 0);
        Edge.due(x, 0, "of", 0, 3);
        Edge.due(x, BAD, "set", 0, 0, -1);
        Edge.due(x, 0, "of", 0, 3);
        Edge.of(TERMS, "a QUARTER (how it lies: 0 .. 3; 0 at first)");
        Edge.due(x, 0, "of", 0, 4);
        Edge.due(x, 0, "set", 0, 1, 3);
        Edge.due(x, 3, "of", 0, 4);
        Edge.due(x, BAD, "set", 0, 1, 4);
        Edge.due(x, 3, "set", 0, 1, 0);
        Edge.due(x, BAD, "set", 0, 1, -1);
        Edge.due(x, 0, "of", 0, 4);
        Edge.of(TERMS, "EMPTY, or not (not at first)");
        LaidQuarrel y = Tables.saying(0, 5, 6);
        Edge.due(y, 0, "of", 0, 5);
        Edge.due(y, 3, "told", 3);
        y.pour(0, 0);
        Edge.due(y, 1, "of", 0, 5);
        Edge.due(y, 0, "of", 1, 5);
        Edge.due(y, 2, "told", 3);
        Edge.of(TERMS, "TOLD ones a ROW of four numbers (0 .. 9; 0 at first).");
        LaidQuarrel z = one(6, 0, 0);
        for (int k = 0; k < 4; k++) {
            z.set(0, 1, k);
            Edge.due(z, 0, "of", 0, 7);
            Edge.due(z, 0, "row", 0, k, 9 - k);
            Edge.due(z, 9 - k, "of", 0, 7);
        }
        for (int k = 0; k < 4; k++) {
            Edge.due(z, 9 - k, "row", 0, k, 0);
        }
        Edge.due(z, NONE, "row", 0, 4, 0);
        Edge.due(z, NONE, "row", 0, -1, 0);
        Edge.due(z, BAD, "row", 0, 0, 10);
        Edge.due(z, BAD, "row", 0, 0, -1);
    }

    private static void guestsAndYear() {
        Edge.of(TERMS, "GUESTS are numbered from 0 on, 4 at most, each with a MOOD (-99 .. 99).");
        LaidQuarrel x = new LaidQuarrel();
        int[] moods = {-99, 99, 0, -1};
        for (int g = 0; g < 4; g++) {
            Edge.due(x, -10001, "mood", g);
            Edge.due(x, g, "guest", moods[g]);
            Edge.due(x, moods[g], "mood", g);
        }
        Edge.due(x, FULL, "guest", 0);
        Edge.due(x, 4, "count", 7);
        Edge.due(x, -10001, "mood", 4);
        Edge.due(x, -10001, "mood", -1);
        Edge.due(new LaidQuarrel(), BAD, "guest", -100);
        Edge.due(new LaidQuarrel(), BAD, "guest", 100);
        Edge.of(TERMS, "YEAR: 0 at first.");
        Edge.due(new LaidQuarrel(), 0, "told", 0);
        Edge.due(new LaidQuarrel(), 1, "pass", 1);
    }

    /** SAYS of a BOTTLE whose ROW, if it has one, is 1, 2, 3, 4. */
    private static void says(int want, int kind, int v, int word, int years, int quarter) {
        LaidQuarrel x = one(kind, v, word);
        x.set(0, 0, years);
        x.set(0, 1, quarter);
        for (int k = 0; k < 4; k++) {
            x.row(0, k, k + 1);
        }
        Edge.is("KIND " + kind + ", v " + v + ", WORD " + word + ", YEARS " + years + ", QUARTER " + quarter,
            x.of(0, 7), want);
        x.guest(0);
        x.pour(0, 0);
        Edge.is("the same EMPTY", x.of(0, 7), want);
    }

    private static void whatBottlesOfTheFirstKindsSay() {
        Edge.of(TERMS, "SAYS of one (EMPTY ones, too): BOTTLE: its WORD, nearer to 0 by SOFT (0, if that is as far "
            + "or farther).");
        int[][] bySoft10 = {{99, 89}, {11, 1}, {10, 0}, {9, 0}, {1, 0}, {0, 0}, {-1, 0}, {-9, 0}, {-10, 0}, {-11, -1},
            {-99, -89}};
        for (int[] word : bySoft10) {
            says(word[1], 0, 9, word[0], 20, 3);
        }
        says(99, 0, 9, 99, 0, 0);
        says(99, 0, 9, 99, 1, 0);
        says(98, 0, 9, 99, 2, 0);
        says(0, 0, 9, 99, 199, 0);
        says(0, 0, 9, -99, 199, 0);
        Edge.of(TERMS, "HARD: likewise by the half (cut) of SOFT.");
        int[][] byHalf = {{6, 1}, {5, 0}, {4, 0}, {0, 0}, {-4, 0}, {-5, 0}, {-6, -1}};
        for (int[] word : byHalf) {
            says(word[1], 1, 9, word[0], 20, 1);
            says(word[1], 1, 9, word[0], 23, 1);
        }
        says(7, 1, 9, 7, 3, 0);
        says(6, 1, 9, 7, 4, 0);
        says(-7, 1, 9, -7, 3, 0);
        says(-6, 1, 9, -7, 4, 0);
        Edge.of(TERMS, "SWEET: likewise by twice SOFT.");
        int[][] byTwice = {{21, 1}, {20, 0}, {19, 0}, {0, 0}, {-19, 0}, {-20, 0}, {-21, -1}};
        for (int[] word : byTwice) {
            says(word[1], 2, 9, word[0], 20, 1);
            says(word[1], 2, 9, word[0], 21, 1);
        }
        says(99, 2, 9, 99, 1, 0);
        says(97, 2, 9, 99, 2, 0);
        Edge.of(TERMS, "CORKED: as BOTTLE, but times -1, if its QUARTER is odd.");
        for (int quarter = 0; quarter < 4; quarter++) {
            for (int[] word : bySoft10) {
                says(quarter % 2 == 1 ? -word[1] : word[1], 3, 9, word[0], 20, quarter);
            }
        }
    }

    private static void whatBottlesOfTheOtherKindsSay() {
        Edge.of(TERMS, "FEUD: as HARD, and v less, if YEARS is above 40.");
        int[][] yearsNearerLess = {{39, 9, 0}, {40, 10, 0}, {41, 10, 9}, {42, 10, 9}, {199, 49, 9}};
        for (int[] y : yearsNearerLess) {
            says(50 - y[2], 4, 9, 50 + y[1], y[0], 3);
            says(-50 - y[2], 4, 9, -50 - y[1], y[0], 3);
            says(-y[2], 4, 9, y[1], y[0], 0);
            says(-y[2], 4, 9, 0, y[0], 0);
        }
        says(0, 4, 0, 0, 41, 0);
        LaidQuarrel feud = one(4, 9, -99);
        feud.set(0, 0, 41);
        Check.read(feud, "sharpen 10 b=0");
        Edge.due(feud, -108, "of", 0, 7);
        Edge.of(TERMS, "LOVE: as SWEET, and v less, if WORD is above 0 and YEARS above 30.");
        says(99 - 28, 5, 9, 99, 29, 0);
        says(99 - 30, 5, 9, 99, 30, 0);
        says(99 - 30 - 9, 5, 9, 99, 31, 0);
        says(99 - 30, 5, 0, 99, 31, 0);
        says(99 - 32 - 1, 5, 1, 99, 32, 3);
        says(0, 5, 9, 1, 30, 0);
        says(-9, 5, 9, 1, 31, 0);
        says(-9, 5, 9, 30, 31, 0);
        says(0, 5, 9, 0, 31, 0);
        says(0, 5, 9, -1, 31, 0);
        says(-69, 5, 9, -99, 31, 0);
        says(-9, 5, 9, 99, 199, 0);
        Edge.of(TERMS, "TOLD: as CORKED, and its ROW at QUARTER more.");
        says(89 + 1, 6, 9, 99, 20, 0);
        says(-89 + 2, 6, 9, 99, 20, 1);
        says(89 + 3, 6, 9, 99, 20, 2);
        says(-89 + 4, 6, 9, 99, 20, 3);
        says(-89 + 1, 6, 9, -99, 20, 0);
        says(89 + 4, 6, 9, -99, 20, 3);
        says(1, 6, 9, 10, 20, 0);
        says(99 + 3, 6, 9, 99, 0, 2);
        says(99 + 4, 6, 9, -99, 0, 3);
    }

    private static void pouredHeld() {
        Edge.of(TERMS, "One is POURED to one of GUESTS: MOOD is what it SAYS more (held to -99 .. 99), "
            + "it is EMPTY then.");
        int[][] moodSaysThen = {{90, 8, 98}, {90, 9, 99}, {90, 10, 99}, {99, 0, 99}, {99, 1, 99}, {99, -1, 98},
            {-90, -8, -98}, {-90, -9, -99}, {-90, -10, -99}, {-99, 0, -99}, {-99, -1, -99}, {-99, 1, -98},
            {0, 99, 99}, {1, 99, 99}, {0, -99, -99}, {-1, -99, -99}, {-99, 99, 0}, {99, -99, 0}, {99, 99, 99},
            {-99, -99, -99}};
        for (int[] m : moodSaysThen) {
            LaidQuarrel x = Tables.saying(m[0], m[1], 33);
            x.guest(-44);
            Edge.due(x, m[2], "pour", 0, 0);
            Edge.due(x, m[2], "mood", 0);
            Edge.due(x, -44, "mood", 1);
            Edge.due(x, 1, "of", 0, 5);
            Edge.due(x, 0, "of", 1, 5);
            Edge.due(x, m[1], "of", 0, 2);
            Edge.due(x, m[1], "of", 0, 7);
        }
        LaidQuarrel told = one(6, 0, 99);
        told.row(0, 0, 9);
        told.guest(-99);
        Edge.due(told, 9, "pour", 0, 0);
    }

    private static void pouredTogether() {
        Edge.of(TERMS, "Two are POURED TOGETHER: MOOD is the half (cut toward 0) of what both SAY, together, more "
            + "(held so); both are EMPTY.");
        int[][] wordsMoodThen = {{1, 0, 0, 0}, {-1, 0, 0, 0}, {3, 0, 0, 1}, {-3, 0, 0, -1}, {2, -5, 0, -1},
            {-2, 5, 0, 1}, {-3, 0, 5, 4}, {3, 0, -5, -4}, {-99, 99, 5, 5}, {99, 99, 0, 99}, {99, 99, 1, 99},
            {99, 98, 0, 98}, {99, 98, 1, 99}, {99, 98, 2, 99}, {-99, -99, 0, -99}, {-99, -99, -1, -99},
            {-99, -98, 0, -98}, {-99, -98, -1, -99}, {-99, -98, -2, -99}, {50, 51, 49, 99}, {50, 52, 48, 99},
            {50, 52, 49, 99}, {-99, -99, 99, 0}};
        for (int[] w : wordsMoodThen) {
            LaidQuarrel x = Tables.saying(w[2], w[0], w[1], 7);
            x.guest(-44);
            Edge.due(x, w[3], "both", 0, 1, 0);
            Edge.due(x, w[3], "mood", 0);
            Edge.due(x, -44, "mood", 1);
            Edge.due(x, 4, "told", 3);
            LaidQuarrel turned = Tables.saying(w[2], w[0], w[1], 7);
            Edge.due(turned, w[3], "both", 1, 0, 0);
            Edge.due(turned, 4, "told", 3);
        }
    }

    private static void moodsCalm(String text, int n, int[] from, int[] to) {
        LaidQuarrel x = new LaidQuarrel();
        for (int mood : from) {
            x.guest(mood);
        }
        Check.read(x, text);
        x.pass(n);
        for (int g = 0; g < from.length; g++) {
            Edge.is("MOOD " + from[g] + ", " + n + " YEARS by " + text, x.mood(g), to[g]);
        }
    }

    private static void aYearGoes() {
        Edge.of(TERMS, "A YEAR goes: YEARS of each that is not EMPTY is 1 more (199 at most)");
        int[][] yearsNThen = {{0, 0, 0}, {0, 1, 1}, {0, 60, 60}, {139, 60, 199}, {140, 60, 199}, {138, 60, 198},
            {197, 1, 198}, {198, 1, 199}, {199, 1, 199}, {199, 60, 199}, {199, 0, 199}};
        for (int[] y : yearsNThen) {
            LaidQuarrel x = Tables.saying(0, 5, 6, 7);
            x.set(0, 0, y[0]);
            x.set(1, 0, y[0]);
            x.pour(1, 0);
            x.pass(y[1]);
            Edge.due(x, y[2], "of", 0, 3);
            Edge.due(x, y[0], "of", 1, 3);
            Edge.due(x, y[1], "of", 2, 3);
        }
        Edge.of(TERMS, "each MOOD is nearer to 0 by CALM (0, if that is as far or farther)");
        moodsCalm("calm 5", 1, new int[] {6, 5, 4, 0}, new int[] {1, 0, 0, 0});
        moodsCalm("calm 5", 1, new int[] {-6, -5, -4, -99}, new int[] {-1, 0, 0, -94});
        moodsCalm("calm 5", 2, new int[] {11, 10, 9, -11}, new int[] {1, 0, 0, -1});
        moodsCalm("calm 5", 0, new int[] {6, -6, 99, -99}, new int[] {6, -6, 99, -99});
        moodsCalm("calm 1", 60, new int[] {99, 61, 60, -61}, new int[] {39, 1, 0, -1});
        moodsCalm("calm 99", 1, new int[] {99, 98, -99, -1}, new int[] {0, 0, 0, 0});
        moodsCalm("calm 99", 60, new int[] {99, 98, -99, -1}, new int[] {0, 0, 0, 0});
        moodsCalm("calm 0", 60, new int[] {99, 1, -99, -1}, new int[] {99, 1, -99, -1});
        moodsCalm("peace 9", 60, new int[] {99, 1, -99, -1}, new int[] {99, 1, -99, -1});
        Edge.of(TERMS, "YEAR is 1 more.");
        LaidQuarrel x = new LaidQuarrel();
        Edge.due(x, 1, "pass", 1);
        Edge.due(x, 1, "told", 0);
        Edge.due(x, 3, "pass", 2);
        Edge.due(x, 3, "told", 0);
    }

    private static void promise4() {
        Edge.of("Promise 4", "One of BOTTLES: its number.");
        Edge.due(new LaidQuarrel(), 0, "bottle", 0, 0, -99);
        Edge.due(new LaidQuarrel(), 0, "bottle", 6, 9, 99);
        Edge.due(Tables.laid(), 3, "bottle", 3, 4, 5);
        LaidQuarrel x = Tables.saying(0, 1, 2, 3, 4, 5);
        Edge.due(x, 5, "bottle", 5, 9, 42);
        int[] of = {5, 9, 42, 0, 0, 0, 0, 42};
        for (int what = 0; what < of.length; what++) {
            Edge.due(x, of[what], "of", 5, what);
        }
        Edge.of("Promise 4", "NONE: kind; BAD: v, word; FULL: 6.");
        int[] kinds = {Edge.LEAST, -1, 7, Edge.MOST};
        for (int kind : kinds) {
            Edge.refused(Tables::laid, NONE, "bottle", kind, 0, 0);
        }
        int[] vs = {Edge.LEAST, -1, 10, Edge.MOST};
        for (int v : vs) {
            Edge.refused(Tables::laid, BAD, "bottle", 6, v, 0);
        }
        int[] words = {Edge.LEAST, -100, 100, Edge.MOST};
        for (int word : words) {
            Edge.refused(Tables::laid, BAD, "bottle", 0, 9, word);
        }
        Edge.refused(Tables::full, FULL, "bottle", 0, 0, 0);
        Edge.refused(Tables::full, FULL, "bottle", 6, 9, 99);
        Edge.refused(Tables::laid, NONE, "bottle", -1, 10, 100);
        Edge.refused(Tables::full, NONE, "bottle", 7, 0, 0);
        Edge.refused(Tables::full, NONE, "bottle", 7, 10, 100);
        Edge.refused(Tables::full, BAD, "bottle", 0, 10, 0);
        Edge.refused(Tables::full, BAD, "bottle", 0, 0, -100);
    }

    private static void promise5() {
        Edge.of("Promise 5", "One of GUESTS: its number.");
        Edge.due(new LaidQuarrel(), 0, "guest", -99);
        Edge.due(new LaidQuarrel(), 0, "guest", 99);
        LaidQuarrel x = Tables.laid();
        Edge.due(x, 2, "guest", 0);
        Edge.due(x, 3, "guest", 98);
        Edge.due(x, 98, "mood", 3);
        Edge.of("Promise 5", "BAD: mood; FULL: 4.");
        for (int mood : new int[] {Edge.LEAST, -10001, -100, 100, Edge.MOST}) {
            Edge.refused(Tables::laid, BAD, "guest", mood);
            Edge.refused(Tables::full, BAD, "guest", mood);
        }
        Edge.refused(Tables::full, FULL, "guest", -99);
        Edge.refused(Tables::full, FULL, "guest", 99);
        Edge.refused(Tables::full, FULL, "guest", 0);
    }

    private static void promise6() {
        Edge.of("Promise 6", "Of a BOTTLE what 0 KIND, 1 v, 2 WORD, 3 YEARS, 4 QUARTER, 5 whether it is EMPTY, "
            + "6 SOFT, 7 SAYS.");
        LaidQuarrel x = Tables.laid();
        int[][] of = {{6, 4, 50, 14, 2, 0, 7, 46}, {0, 0, -40, 4, 0, 1, 4, -36}, {4, 9, -60, 49, 0, 0, 24, -57}};
        for (int b = 0; b < of.length; b++) {
            for (int what = 0; what < of[b].length; what++) {
                Edge.due(x, of[b][what], "of", b, what);
            }
        }
        Edge.of("Promise 6", "-10001: NONE.");
        int[][] none = {{0, -1}, {0, 8}, {0, Edge.LEAST}, {0, Edge.MOST}, {-1, 0}, {3, 0}, {6, 7}, {Edge.LEAST, 0},
            {Edge.MOST, 0}, {3, 8}};
        for (int[] a : none) {
            Edge.refused(Tables::laid, -10001, "of", a[0], a[1]);
        }
        Edge.refused(Tables::full, -10001, "of", 6, 0);
        Edge.refused(Tables::bare, -10001, "of", 0, 0);
    }

    private static void promise7() {
        Edge.of("Promise 7", "The ROW of a TOLD one becomes n (0 .. 9) for QUARTER k: what it was.");
        LaidQuarrel x = one(6, 0, 0);
        for (int k = 0; k < 4; k++) {
            Edge.due(x, 0, "row", 0, k, 9);
            Edge.due(x, 9, "row", 0, k, 0);
            Edge.due(x, 0, "row", 0, k, k + 1);
        }
        for (int k = 0; k < 4; k++) {
            x.set(0, 1, k);
            Edge.due(x, k + 1, "of", 0, 7);
        }
        Edge.of("Promise 7", "NONE: bottle, k; BAD; STATE: another KIND.");
        int[][] none = {{-1, 0, 0}, {3, 0, 0}, {Edge.LEAST, 0, 0}, {Edge.MOST, 0, 0}, {0, -1, 0}, {0, 4, 0},
            {0, Edge.LEAST, 0}, {0, Edge.MOST, 0}, {3, 4, 10}, {3, 0, 10}, {0, 4, 10}, {1, 4, 0}, {1, -1, -1}};
        for (int[] a : none) {
            Edge.refused(Tables::laid, NONE, "row", a);
        }
        int[][] bad = {{0, 0, -1}, {0, 3, 10}, {0, 0, Edge.LEAST}, {0, 0, Edge.MOST}, {1, 0, -1}, {2, 3, 10}};
        for (int[] a : bad) {
            Edge.refused(Tables::laid, BAD, "row", a);
        }
        for (int kind = 0; kind < 6; kind++) {
            int of = kind;
            Edge.refused(() -> one(of, 1, 50), STATE, "row", 0, 0, 0);
            Edge.refused(() -> one(of, 1, 50), STATE, "row", 0, 3, 9);
        }
    }

    private static void promise8() {
        Edge.of("Promise 8", "YEARS (0 .. 199; what 0), QUARTER (0 .. 3; 1) of one become n: what they were.");
        LaidQuarrel x = Tables.saying(0, 5, 6);
        int[][] whatNWas = {{0, 199, 0}, {0, 0, 199}, {0, 198, 0}, {1, 3, 0}, {1, 0, 3}, {1, 1, 0}, {1, 2, 1}};
        for (int[] a : whatNWas) {
            Edge.due(x, a[2], "set", 0, a[0], a[1]);
            Edge.due(x, a[1], "of", 0, 3 + a[0]);
            Edge.due(x, 0, "of", 1, 3 + a[0]);
        }
        Edge.due(x, 198, "of", 0, 3);
        x.pour(1, 0);
        Edge.due(x, 0, "set", 1, 0, 7);
        Edge.due(x, 7, "set", 1, 0, 8);
        Edge.of("Promise 8", "NONE; BAD.");
        int[][] none = {{-1, 0, 0}, {3, 0, 0}, {Edge.LEAST, 0, 0}, {Edge.MOST, 1, 0}, {0, -1, 0}, {0, 2, 0},
            {0, Edge.LEAST, 0}, {0, Edge.MOST, 0}, {3, 0, 200}, {0, 2, 200}, {3, 2, -1}};
        for (int[] a : none) {
            Edge.refused(Tables::laid, NONE, "set", a);
        }
        int[][] bad = {{0, 0, -1}, {0, 0, 200}, {1, 0, Edge.LEAST}, {2, 0, Edge.MOST}, {0, 1, -1}, {0, 1, 4},
            {0, 1, 199}, {2, 1, Edge.LEAST}, {1, 1, Edge.MOST}};
        for (int[] a : bad) {
            Edge.refused(Tables::laid, BAD, "set", a);
        }
    }

    private static void promises9And10() {
        Edge.of("Promise 9", "MOOD of one of GUESTS.");
        LaidQuarrel x = Tables.full();
        int[] moods = {99, -98, 97, -96};
        for (int g = 0; g < 4; g++) {
            Edge.due(x, moods[g], "mood", g);
        }
        Edge.of("Promise 9", "-10001: NONE.");
        for (int g : new int[] {Edge.LEAST, -1, 2, Edge.MOST}) {
            Edge.refused(Tables::laid, -10001, "mood", g);
        }
        Edge.refused(Tables::bare, -10001, "mood", 0);
        Edge.refused(Tables::full, -10001, "mood", 4);
        Edge.of("Promise 10", "What 0 YEAR, 1 CALM, 2 PEACE, 3 which are not EMPTY (bits), 4 what these SAY, "
            + "together, 5 MOOD of all, together.");
        LaidQuarrel y = Tables.saying(40, 99, -40, 99, 99, 99, 99);
        y.guest(99);
        y.guest(99);
        y.guest(99);
        y.pass(7);
        Check.read(y, "calm 6;peace 31");
        int[] told = {7, 6, 31, 63, 5 * 96 - 37, 337};
        for (int what = 0; what < told.length; what++) {
            Edge.due(y, told[what], "told", what);
        }
        y.pour(0, 0);
        y.pour(5, 0);
        Edge.due(y, 30, "told", 3);
        Edge.due(y, 3 * 96 - 37, "told", 4);
        Edge.due(y, 4 * 99, "told", 5);
        y.both(1, 2, 0);
        y.both(3, 4, 0);
        Edge.due(y, 0, "told", 3);
        Edge.due(y, 0, "told", 4);
        Edge.of("Promise 10", "-10001: NONE.");
        for (int what : new int[] {Edge.LEAST, -1, 6, Edge.MOST}) {
            Edge.refused(Tables::laid, -10001, "told", what);
        }
    }

    private static void promises11And12() {
        Edge.of("Promise 11", "One is POURED to one of GUESTS: MOOD then.");
        LaidQuarrel x = Tables.saying(5, 1, 2, 3, 4, 5, 6);
        x.guest(-5);
        Edge.due(x, 11, "pour", 5, 0);
        Edge.due(x, -4, "pour", 0, 1);
        Edge.due(x, 11, "mood", 0);
        Edge.of("Promise 11", "-10001: NONE; -10003: STATE: it is EMPTY.");
        int[][] none = {{-1, 0}, {3, 0}, {Edge.LEAST, 0}, {Edge.MOST, 0}, {0, -1}, {0, 2}, {0, Edge.LEAST},
            {0, Edge.MOST}, {1, 2}, {1, -1}, {3, 2}};
        for (int[] a : none) {
            Edge.refused(Tables::laid, -10001, "pour", a);
        }
        Edge.refused(Tables::laid, -10003, "pour", 1, 0);
        Edge.refused(Tables::laid, -10003, "pour", 1, 1);
        Edge.of("Promise 12", "Two are POURED TOGETHER to one of GUESTS: MOOD then.");
        LaidQuarrel y = Tables.saying(5, 10, 20, 30, 40, 50, 60);
        y.guest(-5);
        Edge.due(y, 40, "both", 0, 5, 0);
        Edge.due(y, 30, "both", 4, 1, 1);
        Edge.of("Promise 12", "-10001: NONE; -10002: BAD: one is both; -10003: STATE: one is EMPTY.");
        int[][] no = {{-1, 0, 0}, {0, -1, 0}, {3, 0, 0}, {0, 3, 0}, {Edge.LEAST, 0, 0}, {0, Edge.MOST, 0}, {0, 2, -1},
            {0, 2, 2}, {0, 2, Edge.LEAST}, {0, 2, Edge.MOST}, {3, 3, 0}, {0, 0, 2}, {1, 0, 2}, {1, 3, 0}, {1, 1, 2}};
        for (int[] a : no) {
            Edge.refused(Tables::laid, -10001, "both", a);
        }
        Edge.refused(Tables::laid, -10002, "both", 0, 0, 0);
        Edge.refused(Tables::laid, -10002, "both", 2, 2, 1);
        Edge.refused(Tables::laid, -10002, "both", 1, 1, 0);
        Edge.refused(Tables::laid, -10003, "both", 1, 0, 0);
        Edge.refused(Tables::laid, -10003, "both", 0, 1, 0);
        Supplier<LaidQuarrel> bothEmpty = () -> {
            LaidQuarrel z = Tables.saying(5, 10, 20);
            z.both(0, 1, 0);
            return z;
        };
        Edge.refused(bothEmpty, -10003, "both", 0, 1, 0);
    }

    private static LaidQuarrel inYear(int year) {
        LaidQuarrel x = new LaidQuarrel();
        for (int left = year; left > 0; left -= 60) {
            x.pass(Math.min(60, left));
        }
        x.guest(50);
        x.bottle(0, 0, 9);
        Check.read(x, "calm 1");
        return x;
    }

    private static void promise13() {
        Edge.of("Promise 13", "n YEARS (0 .. 60) go: YEAR.");
        LaidQuarrel x = Tables.laid();
        Edge.due(x, 4, "pass", 0);
        Edge.due(x, 5, "pass", 1);
        Edge.due(x, 65, "pass", 60);
        Edge.due(x, 65, "told", 0);
        Edge.due(x, 75, "of", 0, 3);
        Edge.of("Promise 13", "BAD; STATE: YEAR would be above 9999.");
        for (int n : new int[] {Edge.LEAST, -1, 61, Edge.MOST}) {
            Edge.refused(Tables::laid, BAD, "pass", n);
            Edge.refused(Tables::late, BAD, "pass", n);
        }
        Edge.due(inYear(9939), 9999, "pass", 60);
        Edge.refused(() -> inYear(9940), STATE, "pass", 60);
        Edge.due(inYear(9940), 9999, "pass", 59);
        Edge.due(inYear(9998), 9999, "pass", 1);
        Edge.refused(() -> inYear(9998), STATE, "pass", 2);
        Edge.refused(() -> inYear(9998), BAD, "pass", 61);
        Edge.due(Tables.late(), 9999, "pass", 0);
        Edge.refused(Tables::late, STATE, "pass", 1);
        Edge.refused(Tables::late, STATE, "pass", 60);
    }

    public static void main(String[] args) {
        bottlesAreSixAtMost();
        kinds();
        whatBottlesHave();
        guestsAndYear();
        whatBottlesOfTheFirstKindsSay();
        whatBottlesOfTheOtherKindsSay();
        pouredHeld();
        pouredTogether();
        aYearGoes();
        promise4();
        promise5();
        promise6();
        promise7();
        promise8();
        promises9And10();
        promises11And12();
        promise13();
        Check.end("EdgesOfBottlesTest");
    }
}
