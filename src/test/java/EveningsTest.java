/** Promises 29 to 32: the EVENING, DONE, BOOK, LOOKED. */
public final class EveningsTest {
    private static void promise29Evening() {
        LaidQuarrel x = new LaidQuarrel();
        Check.due("29 a YEAR needs nobody", x.evening(0, 77, -77), 1);
        Check.due("29 no bottle", x.evening(2, 0, 0), LaidQuarrel.NONE);
        x.bottle(0, 0, 0);
        Check.due("29 no guest", x.evening(1, 0, 0), LaidQuarrel.NONE);
        Check.due("29 a turn needs no guest", x.evening(2, 0, -9), 2);
        Check.due("29 nor does WORD 0", x.evening(3, 0, 9), 3);
        x.guest(0);
        Check.due("29 poured", x.evening(1, 0, 0), 4);
        Check.due("29 no bottle to pour", x.evening(1, 1, 0), LaidQuarrel.NONE);
        Check.due("29 no bottle to hush", x.evening(3, -1, 0), LaidQuarrel.NONE);
        Check.due("29 what below", x.evening(-2, 0, 0), LaidQuarrel.NONE);
        Check.due("29 what above", x.evening(4, 0, 0), LaidQuarrel.NONE);
        for (int n = 5; n <= 8; n++) {
            Check.due("29 row " + n, x.evening(0, 0, 0), n);
        }
        Check.due("29 full", x.evening(0, 0, 0), LaidQuarrel.FULL);
        Check.due("29 NONE ahead of FULL", x.evening(1, 0, 1), LaidQuarrel.NONE);
        Check.due("29 count", x.count(3), 8);
        Check.due("29 none", x.evening(-1, 99, 99), 0);
        Check.due("29 counted none", x.count(3), 0);
    }

    private static void done(String what, LaidQuarrel x, int moods, int says) {
        Check.due("30 MOOD of all " + what, x.done(0), moods);
        Check.due("30 what all SAY " + what, x.done(1), says);
    }

    private static void promise30Done() {
        LaidQuarrel x = new LaidQuarrel();
        done("of none", x, 0, 0);
        x.bottle(3, 0, 40);
        x.bottle(0, 0, -30);
        x.guest(10);
        x.guest(-20);
        Check.read(x, "calm 4");
        done("as it is", x, -10, 10);
        x.evening(2, 0, 9);
        done("a turn", x, -10, -70);
        x.evening(1, 0, 0);
        done("poured", x, -50, -30);
        x.evening(1, 0, 1);
        done("EMPTY, passed over", x, -50, -30);
        x.evening(0, 0, 0);
        done("a YEAR", x, -42, -30);
        x.evening(0, 0, 0);
        done("two YEARS", x, -34, -29);
        x.evening(3, 1, 0);
        done("hushed", x, -34, 0);
        x.evening(1, 1, 1);
        done("nothing poured", x, -34, 0);
        Check.due("30 nothing was done", x.told(5), -10);
        Check.due("30 nothing is EMPTY", x.told(3), 3);
        Check.due("30 no turn", x.of(0, 4), 0);
        Check.due("30 no YEAR", x.told(0), 0);
        Check.due("30 WORD", x.of(1, 2), -30);
        x.pour(0, 1);
        done("from how all is now", x, 14, 0);
        Check.due("30 below", x.done(-1), -10001);
        Check.due("30 above", x.done(2), -10001);
        LaidQuarrel z = new LaidQuarrel();
        z.bottle(0, 0, 70);
        z.bottle(0, 0, 5);
        z.evening(3, 1, 0);
        done("hushed at once", z, 0, 70);
        z.evening(0, 0, 0);
        z.evening(0, 0, 0);
        done("all get older", z, 0, 69);
        z.evening(3, 0, 0);
        done("all hushed", z, 0, 0);
        LaidQuarrel y = new LaidQuarrel();
        y.bottle(0, 0, 99);
        y.bottle(0, 0, 99);
        y.bottle(6, 0, -99);
        y.guest(50);
        y.row(2, 0, 7);
        y.set(2, 1, 3);
        y.evening(1, 0, 0);
        y.evening(1, 1, 0);
        done("held", y, 99, 99);
        y.evening(2, 2, 0);
        done("behind 3 comes 0", y, 99, -92);
        y.evening(1, 2, 0);
        done("down again", y, 7, 0);
    }

    private static void promise31Book() {
        LaidQuarrel x = new LaidQuarrel();
        Check.due("31 none yet", x.book(-1, 5000), 0);
        Check.due("31 no bottle", x.book(0, 1000), LaidQuarrel.NONE);
        x.bottle(0, 0, 0);
        Check.due("31 one", x.book(0, 999), 1);
        Check.due("31 two", x.book(0, -999), 2);
        Check.due("31 says below", x.book(0, -1000), LaidQuarrel.BAD);
        Check.due("31 says above", x.book(0, 1000), LaidQuarrel.BAD);
        Check.due("31 below", x.book(-2, 0), LaidQuarrel.NONE);
        for (int n = 3; n <= 8; n++) {
            Check.due("31 row " + n, x.book(0, 0), n);
        }
        Check.due("31 full", x.book(0, 0), LaidQuarrel.FULL);
        Check.due("31 BAD ahead of FULL", x.book(0, 1000), LaidQuarrel.BAD);
        Check.due("31 count", x.count(4), 8);
        Check.due("31 none", x.book(-1, 0), 0);
        Check.due("31 counted none", x.count(4), 0);
    }

    private static void promise32Looked() {
        LaidQuarrel x = new LaidQuarrel();
        Check.due("32 no rows", x.looked(), -5);
        x.bottle(0, 0, 20);
        x.bottle(0, 0, -1);
        x.guest(0);
        x.book(0, 20);
        Check.due("32 so", x.looked(), -5);
        x.book(1, -1);
        x.book(1, 0);
        x.book(0, 19);
        Check.due("32 the first that is otherwise", x.looked(), 2);
        x.pass(2);
        Check.due("32 as it is now", x.looked(), 0);
        x.book(-1, 0);
        x.book(0, 19);
        x.pour(0, 0);
        Check.due("32 EMPTY ones SAY, too", x.looked(), -5);
        x.book(1, -1);
        Check.due("32 the second", x.looked(), 1);
    }

    public static void main(String[] args) {
        promise29Evening();
        promise30Done();
        promise31Book();
        promise32Looked();
        Check.end("EveningsTest");
    }
}
