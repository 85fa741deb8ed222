/** Promises 18 to 22: CHOOSE, LINE, PAIR, MATCH, WORDS. */
public final class PourTest {
    private static LaidQuarrel of(int... words) {
        LaidQuarrel x = new LaidQuarrel();
        for (int word : words) {
            x.bottle(0, 0, word);
        }
        x.guest(0);
        x.guest(90);
        return x;
    }

    private static void promise18Choose() {
        LaidQuarrel x = of(10, 20, 30, -30, 60, 30);
        Check.due("18 none is needed", x.choose(0, 0), 0);
        Check.due("18 one", x.choose(0, 20), 2);
        Check.due("18 one rather than two, the least bits", x.choose(0, 30), 4);
        Check.due("18 two, the least bits", x.choose(0, 40), 5);
        Check.due("18 nothing held", x.choose(1, 60), 8);
        Check.due("18 over what cannot be held", x.choose(1, 99), -5);
        Check.due("18 two, one below 0", x.choose(0, -10), 10);
        Check.due("18 no set", x.choose(0, -25), -5);
        Check.due("18 two, the others below 0", x.choose(0, -20), 9);
        x.guest(5);
        x.pour(2, 2);
        Check.due("18 not EMPTY ones", x.choose(0, 30), 32);
        Check.due("18 none now", x.choose(2, 35), 0);
        Check.due("18 no guest", x.choose(3, 100), LaidQuarrel.NONE);
        Check.due("18 no guest below", x.choose(-1, 0), LaidQuarrel.NONE);
        Check.due("18 m below", x.choose(0, -100), LaidQuarrel.BAD);
        Check.due("18 m above", x.choose(0, 100), LaidQuarrel.BAD);
        LaidQuarrel y = of(60, 60, -50);
        Check.due("18 beyond 99 on the way", y.choose(0, 70), 7);
        Check.due("18 from 90", y.choose(1, 40), 4);
        Check.due("18 all six", of(1, 2, 4, 8, 16, 32).choose(0, 63), 63);
        Check.due("18 without bottles", of().choose(0, 1), -5);
        Check.due("18 without bottles, as it is", of().choose(1, 90), 0);
    }

    private static void line(String what, LaidQuarrel x, int guest, int mood, int... order) {
        Check.due(what + " MOOD", x.line(guest, -1), mood);
        for (int k = 0; k < 6; k++) {
            Check.due(what + " " + k, x.line(guest, k), k < order.length ? order[k] : -5);
        }
    }

    private static void promise19Line() {
        line("19 as a row", of(10, 20, -5), 0, 25, 0, 1, 2);
        line("19 the bad one ahead of what is held", of(60, 70, -20), 0, 99, 0, 2, 1);
        line("19 nothing to be held", of(80, -30, 40), 0, 90, 0, 1, 2);
        line("19 held below", of(10, -99, 20, -99), 0, -69, 1, 3, 0, 2);
        line("19 from 90", of(30, -20), 1, 99, 1, 0);
        line("19 none", of(), 1, 90);
        LaidQuarrel x = of(60, -20, 70);
        x.both(0, 1, 0);
        line("19 not EMPTY ones", x, 0, 90, 2);
        Check.due("19 nothing is poured", x.mood(0), 20);
        line("19 six", of(1, 2, 3, 4, 5, 6), 0, 21, 0, 1, 2, 3, 4, 5);
        line("19 six, held", of(99, 98, -97, 96, -95, 94), 0, 99, 0, 2, 1, 4, 3, 5);
        Check.due("19 k below", x.line(0, -2), -10001);
        Check.due("19 k above", x.line(0, 6), -10001);
        Check.due("19 no guest", x.line(2, 0), -10001);
        Check.due("19 no guest below", x.line(-1, 0), -10001);
    }

    private static void promise20Pair() {
        Check.due("20 none", of().pair(), -5);
        Check.due("20 one", of(5).pair(), -5);
        Check.due("20 two", of(90, 91).pair(), 1);
        Check.due("20 nearest", of(50, 10, -45, 3).pair(), 2);
        Check.due("20 nearest from below", of(50, 10, -14, 30).pair(), 12);
        Check.due("20 the first of several", of(7, 90, -5, 3).pair(), 2);
        Check.due("20 the first of as near ones", of(50, 5, 5, 5).pair(), 12);
        LaidQuarrel x = of(50, 10, -45, 3, 70, 1);
        x.pour(0, 0);
        Check.due("20 not EMPTY ones", x.pair(), 35);
        x.pour(1, 0);
        x.pour(3, 0);
        x.pour(4, 0);
        Check.due("20 two are left", x.pair(), 25);
        x.pour(5, 0);
        Check.due("20 there are not two", x.pair(), -5);
    }

    private static void match(String what, LaidQuarrel x, int many, int... partners) {
        Check.due(what + " how many", x.match(0), many);
        for (int b = 0; b < partners.length; b++) {
            Check.due(what + " of " + b, x.match(10 + b), partners[b]);
        }
        Check.due(what + " of nobody", x.match(10 + partners.length), LaidQuarrel.NONE);
    }

    private static void promise21Match() {
        match("21 none", of(), 0);
        match("21 one", of(0), 0, -5);
        match("21 at 5", of(10, -5), 1, 1, 0);
        match("21 beyond 5", of(10, -4), 0, -5, -5);
        match("21 below", of(-10, 5), 1, 1, 0);
        match("21 lesser partners first", of(0, 0, 0), 1, 1, 0, -5);
        match("21 more pairs rather than the first", of(10, -10, -14, 6), 2, 2, 3, 0, 1);
        match("21 three", of(40, 20, -40, 30, -30, -20), 3, 2, 5, 0, 4, 3, 1);
        match("21 all with all", of(1, 1, 1, 1, 1, 1), 3, 1, 0, 3, 2, 5, 4);
        match("21 nobody last", of(4, 0, 0, 90, 0, 0), 2, 1, 0, 4, -5, 2, -5);
        LaidQuarrel x = of(1, 1, 1, 1);
        x.pour(1, 0);
        match("21 not EMPTY ones", x, 1, 2, -5, 0, -5);
        LaidQuarrel y = of(30, 30);
        Check.read(y, "peace 59");
        match("21 no peace", y, 0, -5, -5);
        Check.read(y, "peace 60");
        match("21 peace", y, 1, 1, 0);
        Check.due("21 below", y.match(-1), LaidQuarrel.NONE);
        Check.due("21 between", y.match(1), LaidQuarrel.NONE);
        Check.due("21 nine", y.match(9), LaidQuarrel.NONE);
        Check.due("21 sixteen", y.match(16), LaidQuarrel.NONE);
        Check.due("21 least", y.match(Integer.MIN_VALUE), LaidQuarrel.NONE);
    }

    private static void promise22Words() {
        LaidQuarrel x = of(77, -3);
        x.bottle(3, 0, 5);
        x.set(0, 0, 20);
        x.set(2, 1, 1);
        Check.due("22 one", x.words(0, 50, 0), 1);
        Check.due("22 which", x.words(0, 50, 1), 60);
        Check.due("22 from -10 to 10", x.words(0, 0, 0), 21);
        Check.due("22 the least", x.words(0, 0, 1), -10);
        Check.due("22 at the edge", x.words(0, 89, 1), 99);
        Check.due("22 none", x.words(0, 90, 0), 0);
        Check.due("22 no least", x.words(0, 90, 1), -10005);
        Check.due("22 below 0", x.words(1, -99, 1), -99);
        Check.due("22 turned", x.words(2, -98, 1), 98);
        Check.due("22 its WORD stays", x.of(0, 2), 77);
        Check.due("22 s 999", x.words(0, 999, 0), 0);
        Check.due("22 s -999", x.words(0, -999, 1), -10005);
        Check.due("22 s below", x.words(0, -1000, 0), -10002);
        Check.due("22 s above", x.words(0, 1000, 1), -10002);
        Check.due("22 no bottle", x.words(3, 1000, 0), -10001);
        Check.due("22 what below", x.words(0, 1000, -1), -10001);
        Check.due("22 what above", x.words(0, 0, 2), -10001);
        Check.read(x, "sharpen 10 w>4");
        Check.due("22 the CELLAR hears the WORD", x.words(0, 60, 1), 60);
        Check.due("22 and not the one it has", x.words(0, 39, 1), 49);
        x.pour(0, 0);
        Check.due("22 an EMPTY one", x.words(0, 39, 0), 1);
    }

    public static void main(String[] args) {
        promise18Choose();
        promise19Line();
        promise20Pair();
        promise21Match();
        promise22Words();
        Check.end("PourTest");
    }
}
