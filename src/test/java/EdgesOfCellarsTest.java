/** The edges that "Terms" 1 names of THE TAPE and of CELLARS, and those of promises 1 to 3. */
public final class EdgesOfCellarsTest {
    private static final String TERMS = "Terms 1";

    private static LaidQuarrel fed(String text) {
        LaidQuarrel x = new LaidQuarrel();
        for (int i = 0; i < text.length(); i++) {
            x.feed(text.charAt(i));
        }
        return x;
    }

    private static LaidQuarrel read(String... texts) {
        LaidQuarrel x = new LaidQuarrel();
        for (String text : texts) {
            Check.read(x, text);
        }
        return x;
    }

    private static void tapeHasHundredAtMost() {
        Edge.of(TERMS, "A CELLAR is read from THE TAPE (bytes, 100 at most)");
        String hundred = "soften 1 b=1" + "|b=1".repeat(22);
        Edge.good(hundred);
        Edge.good(hundred.substring(0, 96));
        Edge.fault(99, hundred.substring(0, 99) + "x");
        Edge.fault(100, "soften 10 b=1" + "|b=1".repeat(21) + "|b=");
        LaidQuarrel x = fed(hundred);
        Edge.due(x, LaidQuarrel.FULL, "feed", 'x');
        Edge.due(x, 0, "cellar");
        LaidQuarrel many = new LaidQuarrel();
        many.bottle(0, 0, 0);
        many.set(0, 0, 100);
        for (int c = 0; c < 2; c++) {
            (hundred.substring(0, 99) + "x").chars().forEach(many::feed);
            Edge.due(many, -10 - 99, "cellar");
            hundred.replace("|b=1|b=1", c == 0 ? "|b=0|b=1" : "|b=2|b=1").chars().forEach(many::feed);
            Edge.due(many, c, "cellar");
            Edge.due(many, c == 0 ? 55 : 50, "of", 0, 6);
        }
        Edge.fault(1, "c");
        Edge.fault(0, "\0");
        Edge.fault(0, "\u007f");
    }

    private static void clausesAreTenAtMost() {
        Edge.of(TERMS, "CLAUSES, 10 at most, with ; between");
        String nine = "calm 1;".repeat(9);
        Edge.good("calm 1");
        Edge.good(nine + "peace 2");
        Edge.due(read(nine + "peace 2"), 2, "told", 2);
        Edge.good("calm 1;".repeat(8) + "calm 1");
        Edge.fault(63, nine);
        Edge.fault(69, nine + "calm 1;");
        Edge.fault(69, nine + "calm 1;calm 1");
        Edge.fault(75, nine + "soften 1 b=1;calm 1");
        Edge.fault(0, "");
        Edge.fault(0, ";");
        Edge.fault(0, ";calm 1");
        Edge.fault(7, "calm 1;");
        Edge.fault(7, "calm 1;;calm 1");
        Edge.fault(6, "calm 1:calm 1");
        Edge.fault(6, "calm 1<calm 1");
        Edge.fault(13, "soften 1 b=1;|b=2");
    }

    private static void clausesAreOfFourWords() {
        Edge.of(TERMS, "calm n; peace n; soften n E; sharpen n E");
        Edge.good("calm 1");
        Edge.good("peace 1");
        Edge.good("soften 1 b=1");
        Edge.good("sharpen 1 b=1");
        Edge.fault(6, "calm 1 b=1");
        Edge.fault(7, "peace 1 b=1");
        Edge.fault(8, "soften 1");
        Edge.fault(8, "soften 1;calm 1");
        Edge.fault(9, "sharpen 1");
        Edge.fault(7, "soften b=1");
        Edge.fault(8, "sharpen b=1");
        Edge.fault(4, "calm");
        Edge.fault(4, "calms 1");
        Edge.fault(3, "pease 1");
        Edge.fault(2, "shut 1 b=1");
        Edge.fault(4, "soft 1 b=1");
        Edge.fault(5, "sharp 1 b=1");
        Edge.fault(1, "sOften 1 b=1");
        Edge.fault(0, "CALM 1");
        Edge.fault(0, "1");
        Edge.fault(0, "b=1");
    }

    private static void oneBlank() {
        Edge.of(TERMS, "one blank ahead of each part behind the word");
        Edge.fault(4, "calm1");
        Edge.fault(5, "calm  1");
        Edge.fault(4, "calm\t1");
        Edge.fault(0, " calm 1");
        Edge.fault(6, "calm 1 ");
        Edge.fault(6, "calm 1 ;calm 2");
        Edge.fault(7, "calm 1; calm 2");
        Edge.fault(5, "peace1");
        Edge.fault(6, "peace  1");
        Edge.fault(6, "soften1 b=1");
        Edge.fault(7, "soften  1 b=1");
        Edge.fault(8, "soften 1b=1");
        Edge.fault(9, "soften 1  b=1");
        Edge.fault(8, "soften 1\tb=1");
        Edge.fault(7, "sharpen1 b=1");
        Edge.fault(8, "sharpen  1 b=1");
        Edge.fault(9, "sharpen 1b=1");
        Edge.fault(10, "sharpen 1  b=1");
        Edge.fault(10, "soften 1 b =1");
        Edge.fault(11, "soften 1 b= 1");
        Edge.fault(12, "soften 1 b=1 ");
        Edge.fault(12, "soften 1 b=1 &b=2");
        Edge.fault(13, "soften 1 b=1& b=2");
        Edge.fault(13, "soften 1 b=1| b=2");
        Edge.fault(10, "soften 1 ! b=1");
        Edge.fault(10, "soften 1 ( b=1)");
        Edge.fault(13, "soften 1 (b=1 )");
    }

    private static void numberHasOneOrTwoDigits() {
        Edge.of(TERMS, "n 1 or 2 digits, no 0 ahead of another");
        String[][] aheadAndBehind = {{"calm ", ""}, {"peace ", ""}, {"soften ", " b=1"}, {"sharpen ", " b=1"}};
        for (String[] word : aheadAndBehind) {
            int place = word[0].length();
            for (String n : new String[] {"0", "1", "9", "10", "19", "90", "99"}) {
                Edge.good(word[0] + n + word[1]);
            }
            for (String n : new String[] {"00", "01", "09", "0/", "0:"}) {
                Edge.fault(place + 1, word[0] + n + word[1]);
            }
            for (String n : new String[] {"100", "990", "999", "10/", "10:"}) {
                Edge.fault(place + 2, word[0] + n + word[1]);
            }
            for (String n : new String[] {"", "-1", "+1", "/", ":", "x"}) {
                Edge.fault(place, word[0] + n + word[1]);
            }
        }
        for (int n = 0; n <= 99; n++) {
            LaidQuarrel x = read("calm " + n + ";peace " + (99 - n));
            Edge.due(x, n, "told", 1);
            Edge.due(x, 99 - n, "told", 2);
        }
    }

    /** Whether an E holds for BOTTLE 0, which b=0 is said of: by it SOFT is as many as the YEARS, else the half. */
    private static void holds(String e, boolean want) {
        LaidQuarrel x = new LaidQuarrel();
        x.bottle(0, 0, 0);
        x.set(0, 0, 100);
        String text = e.replace("T", "b=0").replace("F", "b=1");
        Check.read(x, "soften 10 " + text);
        Edge.holds(text, x.of(0, 6) == (want ? 100 : 50));
    }

    private static void eitherIsTermsWithBarsBetween() {
        Edge.of(TERMS, "E: T, or T|E.");
        Edge.good("soften 1 b=1");
        Edge.good("soften 1 b=1|b=2");
        Edge.good("soften 1 b=1|b=2|b=3|b=4");
        Edge.fault(9, "soften 1 |b=1");
        Edge.fault(13, "soften 1 b=1|");
        Edge.fault(13, "soften 1 b=1||b=2");
        Edge.fault(13, "soften 1 b=1|&b=2");
        Edge.fault(13, "soften 1 b=1|)");
        Edge.fault(14, "soften 1 (b=1|)");
        holds("T", true);
        holds("F", false);
        holds("T|T", true);
        holds("T|F", true);
        holds("F|T", true);
        holds("F|F", false);
        holds("T|F|F", true);
        holds("F|T|F", true);
        holds("F|F|T", true);
        holds("F|F|F|F|F", false);
        holds("F|F|F|F|T", true);
    }

    private static void termIsFactorsWithAndBetween() {
        Edge.of(TERMS, "T: F, or F&T.");
        Edge.good("soften 1 b=1&b=2");
        Edge.good("soften 1 b=1&b=2&b=3&b=4");
        Edge.fault(9, "soften 1 &b=1");
        Edge.fault(13, "soften 1 b=1&");
        Edge.fault(13, "soften 1 b=1&&b=2");
        Edge.fault(13, "soften 1 b=1&|b=2");
        Edge.fault(13, "soften 1 b=1&)");
        Edge.fault(12, "soften 1 b=1b=2");
        holds("T&T", true);
        holds("T&F", false);
        holds("F&T", false);
        holds("F&F", false);
        holds("F&T&T", false);
        holds("T&F&T", false);
        holds("T&T&F", false);
        holds("T&T&T&T&T", true);
        holds("T&T&T&T&F", false);
        holds("T|T&F", true);
        holds("F&T|T", true);
        holds("F&F|T", true);
        holds("T|F&F", true);
        holds("F|T&F", false);
        holds("F&T|F&T", false);
        holds("F&T|T&T", true);
        holds("T&T|F&T", true);
    }

    private static void factorIsNotOrBracketOrTest() {
        Edge.of(TERMS, "F: !F, (E), or a TEST");
        Edge.good("soften 1 !b=1");
        Edge.good("soften 1 (b=1)");
        Edge.fault(9, "soften 1 ");
        Edge.fault(10, "soften 1 !");
        Edge.fault(10, "soften 1 !)");
        Edge.fault(10, "soften 1 !|b=1");
        Edge.fault(10, "soften 1 (");
        Edge.fault(10, "soften 1 ()");
        Edge.fault(13, "soften 1 (b=1");
        Edge.fault(13, "soften 1 (b=1;calm 1");
        Edge.fault(12, "soften 1 b=1)");
        Edge.fault(14, "soften 1 (b=1))");
        Edge.fault(14, "soften 1 (b=1)(b=2)");
        Edge.fault(14, "soften 1 (b=1)b=2");
        Edge.fault(12, "soften 1 b=1!b=2");
        Edge.fault(12, "soften 1 b=1(b=2)");
        Edge.fault(9, "soften 1 [b=1]");
        holds("!T", false);
        holds("!F", true);
        holds("!!T", true);
        holds("!!!T", false);
        holds("(T)", true);
        holds("(F)", false);
        holds("((T))", true);
        holds("(T|T)&F", false);
        holds("F&(T|T)", false);
        holds("T&(F|T)", true);
        holds("!(T&F)", true);
        holds("!(T|F)", false);
        holds("!(F|F)", true);
        holds("(!T)|F", false);
        holds("!(!T)", true);
    }

    private static void testHasOneOfSixLetters() {
        Edge.of(TERMS, "b or k or v or y or q or w");
        for (char sign = 0; sign < 128; sign++) {
            String text = "soften 1 " + sign + "=1";
            if ("bkvyqw".indexOf(sign) >= 0) {
                Edge.good(text);
            } else {
                Edge.fault(sign == '!' || sign == '(' ? 10 : 9, text);
            }
        }
    }

    private static void testHasOneOfThreeSigns() {
        Edge.of(TERMS, "one of < = >");
        for (char sign = 0; sign < 128; sign++) {
            String text = "soften 1 b" + sign + "1";
            if ("<=>".indexOf(sign) >= 0) {
                Edge.good(text);
            } else {
                Edge.fault(10, text);
            }
        }
        Edge.fault(10, "soften 1 b1");
        Edge.fault(11, "soften 1 b==1");
        Edge.fault(11, "soften 1 b<=1");
    }

    private static void testHasANumberLikewise() {
        Edge.of(TERMS, "a number likewise");
        for (String n : new String[] {"0", "9", "10", "99"}) {
            Edge.good("soften 1 b=" + n);
        }
        Edge.fault(12, "soften 1 b=00");
        Edge.fault(12, "soften 1 b=05");
        Edge.fault(12, "soften 1 b=1/");
        Edge.fault(12, "soften 1 b=1:");
        Edge.fault(13, "soften 1 b=100");
        Edge.fault(13, "soften 1 b=999");
        for (char sign = 0; sign < 128; sign++) {
            if (sign >= '0' && sign <= '9') {
                Edge.good("soften 1 b=" + sign);
                Edge.good("calm " + sign);
            } else {
                Edge.fault(11, "soften 1 b=" + sign);
                Edge.fault(5, "calm " + sign);
            }
        }
    }

    /** BOTTLE n of this KIND and so on; the letter's number is to be this one, so is asked below, at and above it. */
    private static void fact(char letter, int want, int number, int kind, int... vWordYearsQuarter) {
        for (int n : new int[] {0, 1, want - 1, want, want + 1, 9, 10, 19, 20, 99}) {
            for (char sign : new char[] {'<', '=', '>'}) {
                if (n < 0) {
                    continue;
                }
                LaidQuarrel x = new LaidQuarrel();
                for (int b = 0; b < number; b++) {
                    x.bottle(0, 0, 0);
                }
                x.bottle(kind, vWordYearsQuarter[0], vWordYearsQuarter[1]);
                int years = vWordYearsQuarter[2];
                x.set(number, 0, years);
                x.set(number, 1, vWordYearsQuarter[3]);
                Check.read(x, "soften 10 " + letter + sign + n);
                boolean so = sign == '<' ? want < n : sign == '=' ? want == n : want > n;
                Edge.holds(letter + " is " + want + ", asked " + sign + n, x.of(number, 6) == (so ? years : years / 2));
            }
        }
    }

    private static void factsOfABottle() {
        Edge.of(TERMS, "of one of BOTTLES b its number, k its KIND, v its v");
        for (int b = 0; b < 6; b++) {
            fact('b', b, b, 6, 9, 99, 100, 3);
        }
        for (int k = 0; k <= 6; k++) {
            fact('k', k, 5, k, 9, 99, 100, 3);
        }
        fact('v', 0, 5, 6, 0, 99, 100, 3);
        fact('v', 5, 4, 6, 5, 99, 100, 3);
        fact('v', 9, 3, 6, 9, 99, 100, 2);
        Edge.of(TERMS, "y YEARS by 10 (cut)");
        int[][] years = {{1, 0}, {9, 0}, {10, 1}, {11, 1}, {19, 1}, {20, 2}, {99, 9}, {100, 10}, {190, 19}, {199, 19}};
        for (int[] y : years) {
            fact('y', y[1], 3, 6, 9, 99, y[0], 2);
        }
        Edge.of(TERMS, "q its QUARTER");
        for (int q = 0; q < 4; q++) {
            fact('q', q, 5, 6, 9, 99, 100, q);
        }
        Edge.of(TERMS, "w how far its WORD is from 0 by 10 (cut)");
        int[][] words = {{0, 0}, {9, 0}, {10, 1}, {19, 1}, {20, 2}, {89, 8}, {90, 9}, {99, 9}};
        for (int[] w : words) {
            fact('w', w[1], 2, 6, 9, w[0], 100, 3);
            fact('w', w[1], 2, 6, 9, -w[0], 100, 3);
        }
    }

    private static void fiveOpenAtMost() {
        Edge.of(TERMS, "At most 5 of ! and ( are open");
        Edge.good("soften 1 !!!!!b=1");
        Edge.fault(14, "soften 1 !!!!!!b=1");
        Edge.good("soften 1 (((((b=1)))))");
        Edge.fault(14, "soften 1 ((((((b=1))))))");
        Edge.good("soften 1 !(!(!b=1))");
        Edge.fault(14, "soften 1 !(!(!(b=1)))");
        Edge.fault(14, "soften 1 !(!(!!b=1))");
        Edge.good("soften 1 (!(!(b=1)))");
        Edge.fault(14, "soften 1 (!(!(!b=1)))");
        Edge.good("soften 1 !!!!(b=1)");
        Edge.fault(14, "soften 1 !!!!!(b=1)");
        Edge.fault(14, "soften 1 !!!!(!b=1)");
        Edge.good("soften 1 ((((!b=1))))");
        Edge.fault(14, "soften 1 ((((!!b=1))))");
        Edge.fault(14, "soften 1 ((((!(b=1)))))");
        Edge.fault(15, "sharpen 1 !!!!!!b=1");
        Edge.fault(21, "calm 1;soften 1 (((((!b=1)))))");
        holds("!!!!!F", true);
        holds("!!!!!T", false);
        holds("(((((T)))))", true);
    }

    private static void openTillItsEnd() {
        Edge.of(TERMS, "(a ( till its ) , a ! till its F ends)");
        Edge.good("soften 1 !!!!!b=1&!!!!!b=2|!!!!!b=3");
        Edge.good("soften 1 (((((b=1)))))&(((((b=2)))))|(((((b=3)))))");
        Edge.good("soften 1 ((((!b=1&!b=2|!b=3))))");
        Edge.good("soften 1 ((((!b=1&(b=2)))))");
        Edge.good("soften 1 ((((!b=1)&!!b=1)))");
        Edge.fault(21, "soften 1 ((((!b=1)&!!!b=1)))");
        Edge.good("soften 1 !(b=1&!!!b=1)");
        Edge.fault(18, "soften 1 !(b=1&!!!!b=1)");
        Edge.good("soften 1 !(b=1)&!!!!!b=1");
        Edge.fault(21, "soften 1 !(b=1)&!!!!!!b=1");
        Edge.good("soften 1 (b=1)&(((((b=2)))))");
        Edge.fault(20, "soften 1 (b=1)&((((((b=2))))))");
        Edge.good("soften 1 !!!!!b=1;soften 2 !!!!!b=1");
        Edge.fault(32, "soften 1 !!!!!b=1;soften 2 !!!!!!b=1");
        holds("!T|T", true);
        holds("!F&F", false);
        holds("!(F)&F", false);
        holds("!(T)|T", true);
        holds("!!F|T", true);
    }

    private static void faultIsThePlace() {
        String text = "calm 12;peace 3;soften 4 !(b<5|k=60)&v>7;sharpen 8 y=9";
        int[] whole = {6, 7, 15, 36, 40, 54};
        Edge.of(TERMS, "FAULT: the place of the first byte with which no CELLAR can go on");
        for (int size = 0; size <= text.length(); size++) {
            Edge.fault(size, text.substring(0, size) + "\1");
            Edge.fault(size, text.substring(0, size) + "\0calm 1");
        }
        Edge.fault(5, "calm x;peace y");
        Edge.fault(13, "calm 1;peace x;calm 1");
        Edge.fault(0, "xcalm 1");
        Edge.of(TERMS, "(the size, if it ends too early)");
        for (int size = 0; size <= text.length(); size++) {
            boolean isWhole = false;
            for (int end : whole) {
                isWhole |= end == size;
            }
            if (isWhole) {
                Edge.good(text.substring(0, size));
            } else {
                Edge.fault(size, text.substring(0, size));
            }
        }
    }

    private static void cellarsAreFiveAtMost() {
        Edge.of(TERMS, "CELLARS are numbered from 0 on, 5 at most");
        LaidQuarrel x = new LaidQuarrel();
        Edge.due(x, 0, "count", 1);
        for (int c = 0; c < 5; c++) {
            x.feed('x');
            Edge.due(x, -10, "cellar");
            Edge.due(x, c, "count", 1);
            "calm 1".chars().forEach(x::feed);
            Edge.due(x, c, "cellar");
            Edge.due(x, c + 1, "count", 1);
        }
        "calm 1".chars().forEach(x::feed);
        Edge.due(x, LaidQuarrel.FULL, "cellar");
        Edge.due(x, 5, "count", 1);
        Edge.of(TERMS, "the newest one holds");
        LaidQuarrel y = read("calm 3;soften 10 b=0;peace 8");
        y.bottle(0, 0, 0);
        y.set(0, 0, 100);
        Edge.due(y, 3, "told", 1);
        Edge.due(y, 100, "of", 0, 6);
        Check.read(y, "sharpen 10 b=0");
        Edge.due(y, 0, "told", 1);
        Edge.due(y, 5, "told", 2);
        Edge.due(y, 0, "of", 0, 6);
        Check.read(y, "peace 2");
        Edge.due(y, 2, "told", 2);
        Edge.due(y, 50, "of", 0, 6);
        Edge.of(TERMS, "without one there are no CLAUSES");
        LaidQuarrel z = new LaidQuarrel();
        z.bottle(0, 0, 0);
        z.set(0, 0, 100);
        z.guest(50);
        Edge.due(z, 0, "told", 1);
        Edge.due(z, 5, "told", 2);
        Edge.due(z, 50, "of", 0, 6);
        Edge.due(z, 50, "on", 60, 20);
    }

    private static void calmAndPeaceAreTheLast() {
        Edge.of(TERMS, "CALM (0 without), PEACE (5 without): the last n.");
        String[] texts = {"calm 0", "calm 99", "peace 0", "peace 99", "soften 9 b=0", "sharpen 9 b=0",
            "calm 3;calm 7", "calm 7;calm 0", "peace 3;peace 7", "peace 7;peace 0",
            "calm 1;peace 2;calm 3;sharpen 4 b=0", "peace 9;calm 8;soften 7 b=0;peace 6"};
        int[][] calmPeace = {{0, 5}, {99, 5}, {0, 0}, {0, 99}, {0, 5}, {0, 5},
            {7, 5}, {0, 5}, {0, 7}, {0, 0}, {3, 2}, {8, 6}};
        for (int i = 0; i < texts.length; i++) {
            LaidQuarrel x = read("calm 50;peace 50", texts[i]);
            Edge.due(x, calmPeace[i][0], "told", 1);
            Edge.due(x, calmPeace[i][1], "told", 2);
        }
    }

    private static void soft(String text, int years, int want) {
        LaidQuarrel x = read(text);
        x.bottle(0, 0, 0);
        x.set(0, 0, years);
        Edge.is("SOFT by \"" + text + "\", YEARS " + years, x.of(0, 6), want);
    }

    private static void softOfOne() {
        Edge.of(TERMS, "SOFT of one: YEARS times (10, and the n of all soften whose E holds, less those of all sharpen,"
            + " together");
        soft("calm 99;peace 99", 100, 50);
        soft("soften 1 b=0", 100, 55);
        soft("soften 1 b=1", 100, 50);
        soft("soften 0 b=0", 100, 50);
        soft("soften 1 b=0;soften 2 b=0;soften 4 b=1;soften 8 b=0", 100, 105);
        soft("sharpen 1 b=0", 100, 45);
        soft("sharpen 1 b=1", 100, 50);
        soft("sharpen 1 b=0;sharpen 2 b=0;sharpen 4 b=1", 100, 35);
        soft("soften 9 b=0;sharpen 3 b=0", 100, 80);
        soft("soften 99 b<9;".repeat(6) + "soften 99 b<9", 199, 6994);
        Edge.of(TERMS, "0 at least");
        soft("sharpen 9 b=0", 100, 5);
        soft("sharpen 10 b=0", 100, 0);
        soft("sharpen 11 b=0", 100, 0);
        soft("sharpen 99 b=0", 199, 0);
        soft("sharpen 99 b=0;soften 89 b=0", 100, 0);
        soft("sharpen 99 b=0;soften 90 b=0", 100, 5);
        soft("soften 89 b=0;sharpen 99 b=0", 100, 0);
        soft("soften 90 b=0;sharpen 99 b=0", 100, 5);
        Edge.of(TERMS, "by 20 (cut)");
        int[][] byTen = {{0, 0}, {1, 0}, {2, 1}, {3, 1}, {4, 2}, {39, 19}, {40, 20}, {198, 99}, {199, 99}};
        for (int[] years : byTen) {
            soft("calm 1", years[0], years[1]);
        }
        int[][] byOne = {{0, 0}, {19, 0}, {20, 1}, {39, 1}, {40, 2}, {199, 9}};
        for (int[] years : byOne) {
            soft("sharpen 9 b=0", years[0], years[1]);
        }
        soft("soften 9 b=0", 1, 0);
        soft("soften 10 b=0", 1, 1);
        soft("soften 29 b=0", 1, 1);
        soft("soften 30 b=0", 1, 2);
    }

    private static void promise1() {
        Edge.of("Promise 1", "No BOTTLES, no GUESTS, no CELLAR.");
        LaidQuarrel other = Tables.full();
        LaidQuarrel x = new LaidQuarrel();
        for (int what = 0; what <= 7; what++) {
            Edge.due(x, 0, "count", what);
        }
        int[] told = {0, 0, 5, 0, 0, 0};
        for (int what = 0; what < told.length; what++) {
            Edge.due(x, told[what], "told", what);
        }
        Edge.due(x, -10001, "of", 0, 0);
        Edge.due(x, -10001, "mood", 0);
        Edge.due(x, LaidQuarrel.NONE, "set", 0, 0, 0);
        Edge.due(x, LaidQuarrel.NONE, "row", 0, 0, 0);
        Edge.due(x, -10001, "pour", 0, 0);
        Edge.due(x, -10001, "both", 0, 1, 0);
        Edge.due(x, -10001, "on", 0, 10);
        Edge.due(x, -10001, "on", 0, 20);
        Edge.due(x, LaidQuarrel.NONE, "match", 10);
        Edge.due(x, LaidQuarrel.NONE, "as", 0, 0);
        Edge.due(x, LaidQuarrel.STATE, "undo");
        Edge.due(x, -10, "cellar");
        x.bottle(0, 0, 0);
        x.guest(1);
        Edge.due(other, 6, "count", 0);
        Edge.due(new LaidQuarrel(), 0, "count", 0);
        Edge.due(new LaidQuarrel(), 0, "count", 7);
    }

    private static void promise2() {
        Edge.of("Promise 2", "A sign (0 .. 127) comes behind THE TAPE's: how many it has.");
        LaidQuarrel x = new LaidQuarrel();
        Edge.due(x, 1, "feed", 0);
        Edge.due(x, 2, "feed", 1);
        Edge.due(x, 3, "feed", 126);
        Edge.due(x, 4, "feed", 127);
        for (int n = 5; n <= 100; n++) {
            Edge.due(x, n, "feed", n);
        }
        LaidQuarrel y = fed("calm 12");
        Edge.due(y, 8, "feed", ';');
        Edge.due(y, -18, "cellar");
        Edge.due(y, 1, "feed", 'c');
        Edge.of("Promise 2", "BAD; FULL.");
        Edge.refused(Tables::laid, LaidQuarrel.BAD, "feed", -1);
        Edge.refused(Tables::laid, LaidQuarrel.BAD, "feed", 128);
        Edge.refused(Tables::laid, LaidQuarrel.BAD, "feed", Edge.LEAST);
        Edge.refused(Tables::laid, LaidQuarrel.BAD, "feed", Edge.MOST);
        Edge.refused(() -> fed("c".repeat(99)), LaidQuarrel.BAD, "feed", 128);
        Edge.due(fed("c".repeat(99)), 100, "feed", 0);
        Edge.refused(Tables::full, LaidQuarrel.FULL, "feed", 0);
        Edge.refused(Tables::full, LaidQuarrel.FULL, "feed", 127);
        Edge.refused(Tables::full, LaidQuarrel.BAD, "feed", -1);
        Edge.refused(Tables::full, LaidQuarrel.BAD, "feed", 128);
    }

    private static void promise3() {
        Edge.of("Promise 3", "THE TAPE, which is empty then (by a FAULT, too), is a CELLAR, and holds: its number; "
            + "-10 less the FAULT (the one that held holds).");
        LaidQuarrel x = fed("calm 9;peace 8");
        Edge.due(x, 0, "cellar");
        Edge.due(x, 0, "count", 5);
        Edge.due(x, 9, "told", 1);
        Edge.due(x, -10, "cellar");
        Edge.due(x, 9, "told", 1);
        Check.read(x, "calm 1;peace 2;");
        Edge.due(x, 0, "count", 5);
        Edge.due(x, 9, "told", 1);
        Edge.due(x, 8, "told", 2);
        Edge.due(x, 1, "count", 1);
        "calm 1".chars().forEach(x::feed);
        Edge.due(x, 1, "cellar");
        Edge.due(x, 0, "count", 5);
        Edge.due(x, 1, "told", 1);
        LaidQuarrel full = fed("c".repeat(100));
        Edge.due(full, -11, "cellar");
        Edge.due(full, 1, "feed", 'c');
        Edge.of("Promise 3", "FULL (ahead of all; THE TAPE stays).");
        Edge.refused(Tables::full, LaidQuarrel.FULL, "cellar");
        for (String text : new String[] {"", "calm 7", "x"}) {
            LaidQuarrel y = read("calm 1", "calm 2", "calm 3", "calm 4", "calm 5");
            text.chars().forEach(y::feed);
            Edge.due(y, LaidQuarrel.FULL, "cellar");
            Edge.due(y, text.length(), "count", 5);
            Edge.due(y, text.length() + 1, "feed", ';');
            Edge.due(y, LaidQuarrel.FULL, "cellar");
            Edge.due(y, 5, "count", 1);
            Edge.due(y, 5, "told", 1);
        }
        LaidQuarrel z = read("calm 1", "calm 2", "calm 3", "calm 4");
        z.feed('x');
        Edge.due(z, -10, "cellar");
        Edge.due(z, 0, "count", 5);
    }

    public static void main(String[] args) {
        tapeHasHundredAtMost();
        clausesAreTenAtMost();
        clausesAreOfFourWords();
        oneBlank();
        numberHasOneOrTwoDigits();
        eitherIsTermsWithBarsBetween();
        termIsFactorsWithAndBetween();
        factorIsNotOrBracketOrTest();
        testHasOneOfSixLetters();
        testHasOneOfThreeSigns();
        testHasANumberLikewise();
        factsOfABottle();
        fiveOpenAtMost();
        openTillItsEnd();
        faultIsThePlace();
        cellarsAreFiveAtMost();
        calmAndPeaceAreTheLast();
        softOfOne();
        promise1();
        promise2();
        promise3();
        Check.end("EdgesOfCellarsTest");
    }
}
