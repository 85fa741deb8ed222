/** Promises 4 to 13: BOTTLES, GUESTS, what one SAYS, pouring, YEARS that go. */
public final class BottlesTest {
    private static final int LEAST = Integer.MIN_VALUE, MOST = Integer.MAX_VALUE;

    private static void promise4Bottle() {
        LaidQuarrel x = new LaidQuarrel();
        Check.due("4 kind below", x.bottle(-1, 10, 100), LaidQuarrel.NONE);
        Check.due("4 kind above", x.bottle(7, 0, 0), LaidQuarrel.NONE);
        Check.due("4 v below", x.bottle(0, -1, 0), LaidQuarrel.BAD);
        Check.due("4 v above", x.bottle(0, 10, 0), LaidQuarrel.BAD);
        Check.due("4 word below", x.bottle(0, 0, -100), LaidQuarrel.BAD);
        Check.due("4 word above", x.bottle(0, 0, 100), LaidQuarrel.BAD);
        for (int b = 0; b < 6; b++) {
            Check.due("4 number " + b, x.bottle(b, 9 - b, b % 2 == 0 ? 99 : -99), b);
        }
        Check.due("4 full", x.bottle(6, 0, 0), LaidQuarrel.FULL);
        Check.due("4 NONE ahead of all", x.bottle(9, 99, 0), LaidQuarrel.NONE);
        Check.due("4 BAD ahead of FULL", x.bottle(6, 10, 0), LaidQuarrel.BAD);
        Check.due("4 six", x.count(0), 6);
    }

    private static void promise5Guest() {
        LaidQuarrel x = new LaidQuarrel();
        Check.due("5 below", x.guest(-100), LaidQuarrel.BAD);
        Check.due("5 above", x.guest(100), LaidQuarrel.BAD);
        Check.due("5 first", x.guest(-99), 0);
        Check.due("5 second", x.guest(99), 1);
        Check.due("5 third", x.guest(0), 2);
        Check.due("5 fourth", x.guest(1), 3);
        Check.due("5 full", x.guest(1), LaidQuarrel.FULL);
        Check.due("5 BAD ahead of FULL", x.guest(MOST), LaidQuarrel.BAD);
        Check.due("5 four", x.count(7), 4);
        Check.due("9 mood 0", x.mood(0), -99);
        Check.due("9 mood 1", x.mood(1), 99);
        Check.due("9 mood 3", x.mood(3), 1);
        Check.due("9 below", x.mood(-1), -10001);
        Check.due("9 above", x.mood(4), -10001);
        Check.due("10 MOOD of all", x.told(5), 1);
    }

    private static int says(int kind, int v, int word, int years, int quarter) {
        LaidQuarrel x = new LaidQuarrel();
        x.bottle(kind, v, word);
        x.set(0, 0, years);
        x.set(0, 1, quarter);
        x.row(0, 0, 5);
        x.row(0, 3, 8);
        return x.of(0, 7);
    }

    private static void promise6Of() {
        LaidQuarrel x = new LaidQuarrel();
        x.bottle(5, 7, -33);
        x.set(0, 0, 50);
        x.set(0, 1, 2);
        int[] want = {5, 7, -33, 50, 2, 0, 25, 0};
        for (int what = 0; what < want.length; what++) {
            Check.due("6 what " + what, x.of(0, what), want[what]);
        }
        Check.due("6 what below", x.of(0, -1), -10001);
        Check.due("6 what above", x.of(0, 8), -10001);
        Check.due("6 no bottle", x.of(1, 0), -10001);
        Check.due("6 below", x.of(-1, 0), -10001);
        Check.due("6 least", x.of(LEAST, 0), -10001);
        x.guest(0);
        x.pour(0, 0);
        Check.due("6 empty", x.of(0, 5), 1);
    }

    private static void promise6Says() {
        Check.due("BOTTLE", says(0, 9, 60, 20, 1), 50);
        Check.due("BOTTLE below 0", says(0, 9, -60, 20, 1), -50);
        Check.due("BOTTLE as far", says(0, 9, 10, 20, 0), 0);
        Check.due("BOTTLE farther", says(0, 9, -9, 20, 0), 0);
        Check.due("HARD", says(1, 9, 60, 30, 1), 53);
        Check.due("HARD below 0", says(1, 9, -60, 30, 1), -53);
        Check.due("SWEET", says(2, 9, 60, 21, 1), 40);
        Check.due("SWEET below 0", says(2, 9, -60, 21, 1), -40);
        Check.due("CORKED 0", says(3, 9, 60, 20, 0), 50);
        Check.due("CORKED 1", says(3, 9, 60, 20, 1), -50);
        Check.due("CORKED 2", says(3, 9, 60, 20, 2), 50);
        Check.due("CORKED 3", says(3, 9, -60, 20, 3), 50);
        Check.due("FEUD at 40", says(4, 9, -60, 40, 0), -50);
        Check.due("FEUD above 40", says(4, 9, -60, 41, 0), -59);
        Check.due("FEUD above 0", says(4, 9, 60, 41, 0), 41);
        Check.due("FEUD hushed", says(4, 9, 0, 41, 0), -9);
        Check.due("LOVE at 30", says(5, 9, 60, 30, 0), 30);
        Check.due("LOVE above 30", says(5, 9, 60, 31, 0), 21);
        Check.due("LOVE below 0", says(5, 9, -60, 31, 0), -30);
        Check.due("LOVE of WORD 0", says(5, 9, 0, 31, 0), 0);
        Check.due("LOVE of WORD 1", says(5, 9, 1, 31, 0), -9);
        Check.due("TOLD 0", says(6, 9, 60, 20, 0), 55);
        Check.due("TOLD 1", says(6, 9, 60, 20, 1), -50);
        Check.due("TOLD 3", says(6, 9, 60, 20, 3), -42);
    }

    private static void promise7Row() {
        LaidQuarrel x = new LaidQuarrel();
        x.bottle(6, 0, 0);
        x.bottle(3, 0, 0);
        Check.due("7 first", x.row(0, 2, 9), 0);
        Check.due("7 what it was", x.row(0, 2, 4), 9);
        Check.due("7 each k of its own", x.row(0, 3, 1), 0);
        Check.due("7 not its QUARTER", x.of(0, 7), 0);
        x.set(0, 1, 2);
        Check.due("7 its QUARTER", x.of(0, 7), 4);
        Check.due("7 n 0", x.row(0, 3, 0), 1);
        Check.due("7 n 0 is kept", x.row(0, 3, 9), 0);
        Check.due("7 no bottle", x.row(2, 0, 10), LaidQuarrel.NONE);
        Check.due("7 k below", x.row(0, -1, 10), LaidQuarrel.NONE);
        Check.due("7 k above", x.row(0, 4, 0), LaidQuarrel.NONE);
        Check.due("7 k ahead of KIND", x.row(1, 4, 0), LaidQuarrel.NONE);
        Check.due("7 n below", x.row(0, 0, -1), LaidQuarrel.BAD);
        Check.due("7 n above", x.row(0, 0, 10), LaidQuarrel.BAD);
        Check.due("7 BAD ahead of STATE", x.row(1, 0, 10), LaidQuarrel.BAD);
        Check.due("7 another KIND", x.row(1, 0, 9), LaidQuarrel.STATE);
    }

    private static void promise8Set() {
        LaidQuarrel x = new LaidQuarrel();
        x.bottle(0, 0, 0);
        Check.due("8 years", x.set(0, 0, 199), 0);
        Check.due("8 what they were", x.set(0, 0, 0), 199);
        Check.due("8 quarter", x.set(0, 1, 3), 0);
        Check.due("8 what it was", x.set(0, 1, 2), 3);
        Check.due("8 years stand apart", x.of(0, 3), 0);
        Check.due("8 quarter stands apart", x.of(0, 4), 2);
        Check.due("8 years below", x.set(0, 0, -1), LaidQuarrel.BAD);
        Check.due("8 years above", x.set(0, 0, 200), LaidQuarrel.BAD);
        Check.due("8 quarter below", x.set(0, 1, -1), LaidQuarrel.BAD);
        Check.due("8 quarter above", x.set(0, 1, 4), LaidQuarrel.BAD);
        Check.due("8 what below", x.set(0, -1, 500), LaidQuarrel.NONE);
        Check.due("8 what above", x.set(0, 2, 0), LaidQuarrel.NONE);
        Check.due("8 no bottle", x.set(1, 0, 500), LaidQuarrel.NONE);
    }

    private static void promise10Told() {
        LaidQuarrel x = new LaidQuarrel();
        x.bottle(0, 0, 30);
        x.bottle(0, 0, -50);
        x.bottle(0, 0, 7);
        x.guest(-20);
        x.guest(5);
        x.pour(1, 1);
        x.pass(2);
        Check.due("10 YEAR", x.told(0), 2);
        Check.due("10 full ones", x.told(3), 5);
        Check.due("10 what these SAY", x.told(4), 35);
        Check.due("10 MOOD of all", x.told(5), -65);
        x.set(0, 0, 3);
        Check.due("10 what they SAY now, not in a YEAR", x.told(4), 35);
        Check.due("10 below", x.told(-1), -10001);
        Check.due("10 above", x.told(6), -10001);
    }

    private static void promise11Pour() {
        LaidQuarrel x = new LaidQuarrel();
        x.bottle(0, 0, 60);
        x.bottle(2, 0, 60);
        x.bottle(0, 0, -90);
        x.guest(50);
        x.guest(-10);
        x.set(1, 0, 20);
        Check.due("11 held above", x.pour(0, 0), 99);
        Check.due("11 empty", x.pour(0, 1), -10003);
        Check.due("11 as it SAYS", x.pour(1, 1), 30);
        Check.due("11 the other guest", x.mood(0), 99);
        Check.due("11 down", x.pour(2, 1), -60);
        Check.due("11 no bottle", x.pour(3, 0), -10001);
        Check.due("11 no guest", x.pour(0, 2), -10001);
        Check.due("11 below", x.pour(-1, -1), -10001);
        LaidQuarrel y = new LaidQuarrel();
        y.bottle(0, 0, -99);
        y.guest(-1);
        Check.due("11 held below", y.pour(0, 0), -99);
    }

    private static void promise12Both() {
        LaidQuarrel x = new LaidQuarrel();
        x.bottle(0, 0, 30);
        x.bottle(0, 0, -61);
        x.bottle(0, 0, 99);
        x.bottle(0, 0, 98);
        x.bottle(0, 0, 1);
        x.guest(0);
        x.guest(50);
        Check.due("12 one is both", x.both(0, 0, 0), -10002);
        Check.due("12 cut toward 0", x.both(0, 1, 0), -15);
        Check.due("12 both are empty", x.told(3), 28);
        Check.due("12 the first is empty", x.both(0, 2, 0), -10003);
        Check.due("12 the second is empty", x.both(2, 1, 0), -10003);
        Check.due("12 BAD ahead of STATE", x.both(1, 1, 0), -10002);
        Check.due("12 no one", x.both(5, 5, 0), -10001);
        Check.due("12 no other", x.both(2, -1, 0), -10001);
        Check.due("12 no guest", x.both(2, 2, 2), -10001);
        Check.due("12 held", x.both(2, 3, 1), 99);
        Check.due("12 nothing else", x.mood(0), -15);
    }

    private static void promise13Pass() {
        LaidQuarrel x = new LaidQuarrel();
        x.bottle(0, 0, 30);
        x.bottle(0, 0, 30);
        x.bottle(0, 0, 1);
        x.guest(20);
        x.guest(-5);
        x.set(1, 0, 190);
        x.pour(2, 0);
        Check.due("13 nothing goes", x.pass(0), 0);
        Check.due("13 below", x.pass(-1), LaidQuarrel.BAD);
        Check.due("13 above", x.pass(61), LaidQuarrel.BAD);
        Check.due("13 fifteen", x.pass(15), 15);
        Check.due("13 YEARS", x.of(0, 3), 15);
        Check.due("13 199 at most", x.of(1, 3), 199);
        Check.due("13 not EMPTY ones", x.of(2, 3), 0);
        Check.due("13 no CALM", x.mood(0), 21);
        Check.read(x, "calm 3");
        x.pass(1);
        Check.due("13 calmer", x.mood(0), 18);
        Check.due("13 calmer from below", x.mood(1), -2);
        x.pass(2);
        Check.due("13 calmer year by year", x.mood(0), 12);
        Check.due("13 calm", x.mood(1), 0);
        LaidQuarrel y = new LaidQuarrel();
        for (int i = 1; i <= 166; i++) {
            Check.due("13 on", y.pass(60), 60 * i);
        }
        Check.due("13 beyond 9999", y.pass(40), LaidQuarrel.STATE);
        Check.due("13 BAD ahead of STATE", y.pass(61), LaidQuarrel.BAD);
        Check.due("13 9999", y.pass(39), 9999);
        Check.due("13 no more", y.pass(1), LaidQuarrel.STATE);
        Check.due("13 none is not beyond", y.pass(0), 9999);
    }

    public static void main(String[] args) {
        promise4Bottle();
        promise5Guest();
        promise6Of();
        promise6Says();
        promise7Row();
        promise8Set();
        promise10Told();
        promise11Pour();
        promise12Both();
        promise13Pass();
        Check.end("BottlesTest");
    }
}
