/** Promises 23 to 28: SEEN, OLD, FIRM, WHOSE, ODDS, MEAN. */
public final class SeenTest {
    private static void promise23See() {
        LaidQuarrel x = new LaidQuarrel();
        x.bottle(0, 0, 0);
        Check.due("23 none yet", x.see(-1, 5000, -3), 0);
        Check.due("23 one", x.see(0, 999, 20), 1);
        Check.due("23 two", x.see(0, -999, 0), 2);
        Check.due("23 no bottle", x.see(1, 1000, 0), LaidQuarrel.NONE);
        Check.due("23 below", x.see(-2, 0, 0), LaidQuarrel.NONE);
        Check.due("23 says below", x.see(0, -1000, 0), LaidQuarrel.BAD);
        Check.due("23 says above", x.see(0, 1000, 0), LaidQuarrel.BAD);
        Check.due("23 n below", x.see(0, 0, -1), LaidQuarrel.BAD);
        Check.due("23 n above", x.see(0, 0, 21), LaidQuarrel.BAD);
        Check.due("23 three", x.see(0, 0, 0), 3);
        Check.due("23 four", x.see(0, 0, 0), 4);
        Check.due("23 five", x.see(0, 0, 0), 5);
        Check.due("23 full", x.see(0, 0, 0), LaidQuarrel.FULL);
        Check.due("23 BAD ahead of FULL", x.see(0, 0, 21), LaidQuarrel.BAD);
        Check.due("23 count", x.count(2), 5);
        Check.due("23 none", x.see(-1, 0, 0), 0);
        Check.due("23 counted none", x.count(2), 0);
        Check.due("23 one again", x.see(0, 0, 0), 1);
    }

    private static void promise24Old() {
        LaidQuarrel x = new LaidQuarrel();
        x.bottle(0, 0, 60);
        x.bottle(0, 0, -10);
        x.set(0, 0, 150);
        Check.due("24 nothing SEEN", x.old(0, 0), 100);
        Check.due("24 the least", x.old(0, 1), 0);
        x.see(0, 50, 0);
        Check.due("24 two", x.old(0, 0), 2);
        Check.due("24 twenty", x.old(0, 1), 20);
        x.see(0, 49, 1);
        Check.due("24 one", x.old(0, 0), 1);
        Check.due("24 twenty-one", x.old(0, 1), 21);
        Check.due("24 the YEARS stay", x.of(0, 3), 150);
        Check.due("24 the other is asked: what is SEEN of this one is not so", x.old(1, 0), 0);
        Check.due("24 none", x.old(1, 1), -5);
        x.see(1, -9, 2);
        Check.due("24 what is SEEN of others, too", x.old(0, 1), 21);
        x.see(1, -9, 0);
        Check.due("24 and not so", x.old(0, 0), 0);
        Check.due("24 none then", x.old(0, 1), -5);
        x.see(-1, 0, 0);
        x.see(0, 11, 0);
        Check.due("24 98 and 99", x.old(0, 0), 2);
        Check.due("24 98", x.old(0, 1), 98);
        x.guest(0);
        x.pour(0, 0);
        x.see(-1, 0, 0);
        x.see(0, 50, 20);
        Check.due("24 an EMPTY one gets no older", x.old(0, 1), 20);
        Check.due("24 no bottle", x.old(2, 0), LaidQuarrel.NONE);
        Check.due("24 what below", x.old(0, -1), LaidQuarrel.NONE);
        Check.due("24 what above", x.old(0, 2), LaidQuarrel.NONE);
    }

    private static void promise25Firm() {
        LaidQuarrel x = new LaidQuarrel();
        x.bottle(4, 2, -60);
        x.bottle(0, 3, 20);
        x.set(0, 0, 40);
        Check.due("25 nothing SEEN", x.firm(0, 0), 10);
        Check.due("25 the least", x.firm(0, 1), 0);
        x.see(0, -50, 0);
        Check.due("25 v does not matter yet", x.firm(0, 0), 10);
        x.see(0, -57, 1);
        Check.due("25 one", x.firm(0, 0), 1);
        Check.due("25 seven", x.firm(0, 1), 7);
        Check.due("25 its v stays", x.of(0, 1), 2);
        Check.due("25 of another", x.firm(1, 0), 0);
        x.see(0, -60, 2);
        Check.due("25 none", x.firm(0, 0), 0);
        Check.due("25 no least", x.firm(0, 1), -5);
        x.see(-1, 0, 0);
        x.set(1, 0, 20);
        Check.read(x, "sharpen 10 v>3&v<9");
        x.see(1, 20, 0);
        Check.due("25 by the CELLAR", x.firm(1, 0), 5);
        Check.due("25 four", x.firm(1, 1), 4);
        Check.due("25 no bottle", x.firm(2, 0), LaidQuarrel.NONE);
        Check.due("25 what below", x.firm(0, -1), LaidQuarrel.NONE);
        Check.due("25 what above", x.firm(0, 2), LaidQuarrel.NONE);
    }

    private static void promise26Whose() {
        LaidQuarrel x = new LaidQuarrel();
        x.bottle(0, 0, 10);
        x.bottle(0, 0, 10);
        x.bottle(0, 0, 5);
        x.bottle(0, 0, 0);
        x.guest(0);
        x.pour(1, 0);
        Check.due("26 EMPTY ones, too", x.whose(10, 0), 3);
        Check.due("26 behind ten", x.whose(5, 10), 1);
        Check.due("26 behind ten 0", x.whose(0, 10), 12);
        Check.due("26 EMPTY ones get no older", x.whose(10, 40), 2);
        Check.due("26 nobody", x.whose(-999, 0), 0);
        Check.due("26 999", x.whose(999, 0), 0);
        Check.due("26 s below", x.whose(-1000, 0), LaidQuarrel.BAD);
        Check.due("26 s above", x.whose(1000, 0), LaidQuarrel.BAD);
        Check.due("26 n below", x.whose(0, -1), LaidQuarrel.BAD);
        Check.due("26 n above", x.whose(0, 41), LaidQuarrel.BAD);
    }

    private static void odds(LaidQuarrel x, int guest, int m, long above, long below) {
        Check.due("27 above, m " + m, x.odds(guest, m, 0), above);
        Check.due("27 below, m " + m, x.odds(guest, m, 1), below);
    }

    private static void promise27Odds() {
        LaidQuarrel x = new LaidQuarrel();
        x.guest(10);
        x.guest(-60);
        odds(x, 0, 0, LaidQuarrel.NO, LaidQuarrel.NO);
        x.bottle(0, 0, 5);
        x.bottle(0, 0, -5);
        x.bottle(0, 0, 95);
        x.bottle(0, 0, -80);
        odds(x, 0, 15, 1, 2);
        odds(x, 0, 16, 1, 4);
        odds(x, 0, 5, 3, 4);
        odds(x, 0, 99, 1, 4);
        odds(x, 0, -70, 1, 1);
        odds(x, 1, 36, 0, 1);
        odds(x, 1, -99, 1, 1);
        x.pour(2, 1);
        odds(x, 0, 15, 1, 3);
        Check.due("27 no guest", x.odds(2, 0, 0), LaidQuarrel.NO);
        Check.due("27 no guest below", x.odds(-1, 0, 0), LaidQuarrel.NO);
        Check.due("27 m below", x.odds(0, -100, 0), LaidQuarrel.NO);
        Check.due("27 m above", x.odds(0, 100, 0), LaidQuarrel.NO);
        Check.due("27 part below", x.odds(0, 0, -1), LaidQuarrel.NO);
        Check.due("27 part above", x.odds(0, 0, 2), LaidQuarrel.NO);
        x.both(0, 1, 0);
        x.pour(3, 0);
        odds(x, 0, 0, LaidQuarrel.NO, LaidQuarrel.NO);
    }

    private static void mean(LaidQuarrel x, int n, long above, long below) {
        Check.due("28 above, n " + n, x.mean(n, 0), above);
        Check.due("28 below, n " + n, x.mean(n, 1), below);
    }

    private static void promise28Mean() {
        LaidQuarrel x = new LaidQuarrel();
        x.guest(0);
        mean(x, 0, LaidQuarrel.NO, LaidQuarrel.NO);
        x.bottle(0, 0, 10);
        mean(x, 0, 10, 1);
        x.bottle(0, 0, -15);
        mean(x, 0, -5, 2);
        mean(x, 20, -5, 2);
        mean(x, 60, 0, 1);
        x.bottle(1, 0, 9);
        x.bottle(1, 0, -12);
        mean(x, 0, -2, 1);
        x.pour(0, 0);
        mean(x, 0, -6, 1);
        x.pour(2, 0);
        mean(x, 2, -13, 1);
        mean(x, 4, -12, 1);
        mean(x, 6, -23, 2);
        Check.due("28 n below", x.mean(-1, 0), LaidQuarrel.NO);
        Check.due("28 n above", x.mean(61, 0), LaidQuarrel.NO);
        Check.due("28 part below", x.mean(0, -1), LaidQuarrel.NO);
        Check.due("28 part above", x.mean(0, 2), LaidQuarrel.NO);
        x.both(1, 3, 0);
        mean(x, 0, LaidQuarrel.NO, LaidQuarrel.NO);
    }

    public static void main(String[] args) {
        promise23See();
        promise24Old();
        promise25Firm();
        promise26Whose();
        promise27Odds();
        promise28Mean();
        Check.end("SeenTest");
    }
}
