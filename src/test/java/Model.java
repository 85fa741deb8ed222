import java.util.ArrayList;
import java.util.HashSet;
import java.util.List;
import java.util.Set;

/**
 * The document once more, in the slowest and most literal way: what is supposed is a copy of all there is, years go
 * one by one, texts are asked as texts, and a FAULT is looked for by trying what could follow.
 */
final class Model {
    static final int NONE = -1, BAD = -2, STATE = -3, FULL = -4;
    static final long NO = Long.MIN_VALUE;

    static final class B {
        int id, kind, v, word, years, quarter;
        boolean empty;
        int[] row = new int[4];

        B copy() {
            B b = new B();
            b.id = id;
            b.kind = kind;
            b.v = v;
            b.word = word;
            b.years = years;
            b.quarter = quarter;
            b.empty = empty;
            b.row = row.clone();
            return b;
        }
    }

    static final class S {
        String tape = "";
        String held = "";
        int cellars, year;
        List<B> bottles = new ArrayList<>();
        List<Integer> moods = new ArrayList<>();
        List<int[]> seen = new ArrayList<>(), evening = new ArrayList<>(), book = new ArrayList<>();

        S copy() {
            S s = new S();
            s.tape = tape;
            s.held = held;
            s.cellars = cellars;
            s.year = year;
            for (B b : bottles) {
                s.bottles.add(b.copy());
            }
            s.moods.addAll(moods);
            s.seen.addAll(seen);
            s.evening.addAll(evening);
            s.book.addAll(book);
            return s;
        }

        int last(String word, int without) {
            int n = without;
            for (String clause : held.split(";")) {
                if (clause.startsWith(word + " ")) {
                    n = Integer.parseInt(clause.substring(word.length() + 1));
                }
            }
            return n;
        }

        int soft(B b) {
            int more = 0, less = 0;
            for (String clause : held.split(";")) {
                String[] part = clause.split(" ");
                if (part[0].equals("soften") && either(part[2], b)) {
                    more += Integer.parseInt(part[1]);
                }
                if (part[0].equals("sharpen") && either(part[2], b)) {
                    less += Integer.parseInt(part[1]);
                }
            }
            int rate = 10 + more - less;
            return b.years * (rate < 0 ? 0 : rate) / 20;
        }

        int says(B b) {
            int soft = soft(b);
            switch (b.kind) {
                case 0: return near(b.word, soft);
                case 1: return near(b.word, soft / 2);
                case 2: return near(b.word, 2 * soft);
                case 3: return near(b.word, soft) * (b.quarter % 2 == 1 ? -1 : 1);
                case 4: return near(b.word, soft / 2) - (b.years > 40 ? b.v : 0);
                case 5: return near(b.word, 2 * soft) - (b.word > 0 && b.years > 30 ? b.v : 0);
                default: return near(b.word, soft) * (b.quarter % 2 == 1 ? -1 : 1) + b.row[b.quarter];
            }
        }

        void goYear() {
            for (B b : bottles) {
                if (!b.empty && b.years < 199) {
                    b.years++;
                }
            }
            for (int g = 0; g < moods.size(); g++) {
                moods.set(g, near(moods.get(g), last("calm", 0)));
            }
            year++;
        }

        S behind(int n) {
            S s = copy();
            for (int i = 0; i < n; i++) {
                s.goYear();
            }
            return s;
        }

        int allSay() {
            int sum = 0;
            for (B b : bottles) {
                sum += b.empty ? 0 : says(b);
            }
            return sum;
        }

        int allMoods() {
            int sum = 0;
            for (int m : moods) {
                sum += m;
            }
            return sum;
        }

        void lift(int g, int by) {
            moods.set(g, hold(moods.get(g) + by));
        }

        boolean bottle(int b) {
            return b >= 0 && b < bottles.size();
        }

        boolean guest(int g) {
            return g >= 0 && g < moods.size();
        }

        List<Integer> full() {
            List<Integer> full = new ArrayList<>();
            for (B b : bottles) {
                if (!b.empty) {
                    full.add(b.id);
                }
            }
            return full;
        }
    }

    private S now = new S();
    private S image = null;
    private List<Integer> trace = new ArrayList<>();

    static int near(int n, int by) {
        if (by >= Math.abs(n)) {
            return 0;
        }
        return n < 0 ? n + by : n - by;
    }

    static int hold(int mood) {
        return mood > 99 ? 99 : mood < -99 ? -99 : mood;
    }

    // ---- an E as its text is asked

    static boolean either(String e, B b) {
        int at = splitAt(e, '|');
        return at < 0 ? both(e, b) : both(e.substring(0, at), b) | either(e.substring(at + 1), b);
    }

    static boolean both(String t, B b) {
        int at = splitAt(t, '&');
        return at < 0 ? factor(t, b) : factor(t.substring(0, at), b) & both(t.substring(at + 1), b);
    }

    static boolean factor(String f, B b) {
        if (f.charAt(0) == '!') {
            return !factor(f.substring(1), b);
        }
        if (f.charAt(0) == '(') {
            return either(f.substring(1, f.length() - 1), b);
        }
        int n = Integer.parseInt(f.substring(2));
        int is = switch (f.charAt(0)) {
            case 'b' -> b.id;
            case 'k' -> b.kind;
            case 'v' -> b.v;
            case 'y' -> b.years / 10;
            case 'q' -> b.quarter;
            default -> Math.abs(b.word) / 10;
        };
        return f.charAt(1) == '<' ? is < n : f.charAt(1) == '>' ? is > n : is == n;
    }

    static int splitAt(String e, char sign) {
        int open = 0;
        for (int i = 0; i < e.length(); i++) {
            open += e.charAt(i) == '(' ? 1 : e.charAt(i) == ')' ? -1 : 0;
            if (open == 0 && e.charAt(i) == sign) {
                return i;
            }
        }
        return -1;
    }

    // ---- whether a text is a CELLAR: all the places where a part that begins at a place can end

    static Set<Integer> ends(String s, Set<Integer> from, String literal) {
        Set<Integer> to = new HashSet<>();
        for (int i : from) {
            if (s.startsWith(literal, i)) {
                to.add(i + literal.length());
            }
        }
        return to;
    }

    static Set<Integer> numberEnds(String s, Set<Integer> from) {
        Set<Integer> to = new HashSet<>();
        for (int i : from) {
            if (s.substring(i).matches("(?s)[0-9].*")) {
                to.add(i + 1);
            }
            if (s.substring(i).matches("(?s)[1-9][0-9].*")) {
                to.add(i + 2);
            }
        }
        return to;
    }

    static Set<Integer> testEnds(String s, Set<Integer> from) {
        Set<Integer> to = new HashSet<>();
        for (int i : from) {
            if (s.substring(i).matches("(?s)[bkvyqw][<=>].*")) {
                to.add(i + 2);
            }
        }
        return numberEnds(s, to);
    }

    static Set<Integer> factorEnds(String s, Set<Integer> from, int open) {
        Set<Integer> to = testEnds(s, from);
        Set<Integer> not = ends(s, from, "!");
        Set<Integer> in = ends(s, from, "(");
        if (open < 5 && !not.isEmpty()) {
            to.addAll(factorEnds(s, not, open + 1));
        }
        if (open < 5 && !in.isEmpty()) {
            to.addAll(ends(s, eitherEnds(s, in, open + 1), ")"));
        }
        return to;
    }

    static Set<Integer> bothEnds(String s, Set<Integer> from, int open) {
        Set<Integer> to = factorEnds(s, from, open);
        Set<Integer> on = ends(s, to, "&");
        if (!on.isEmpty()) {
            to.addAll(bothEnds(s, on, open));
        }
        return to;
    }

    static Set<Integer> eitherEnds(String s, Set<Integer> from, int open) {
        Set<Integer> to = bothEnds(s, from, open);
        Set<Integer> on = ends(s, to, "|");
        if (!on.isEmpty()) {
            to.addAll(eitherEnds(s, on, open));
        }
        return to;
    }

    static boolean isClause(String s) {
        Set<Integer> start = Set.of(0);
        Set<Integer> to = new HashSet<>();
        for (String word : new String[] {"calm ", "peace "}) {
            to.addAll(numberEnds(s, ends(s, start, word)));
        }
        for (String word : new String[] {"soften ", "sharpen "}) {
            to.addAll(eitherEnds(s, ends(s, numberEnds(s, ends(s, start, word)), " "), 0));
        }
        return to.contains(s.length());
    }

    static boolean isCellar(String s) {
        String[] clauses = s.split(";", -1);
        boolean is = clauses.length <= 10;
        for (String clause : clauses) {
            is = is && isClause(clause);
        }
        return is;
    }

    /** Whether something can follow by which it is a CELLAR: what is begun is brought to its shortest end. */
    static boolean canGoOn(String s) {
        String tail = s.substring(s.lastIndexOf(';') + 1);
        String ahead = s.substring(0, s.length() - tail.length());
        if (!ahead.isEmpty()) {
            String done = ahead.substring(0, ahead.length() - 1);
            if (!isCellar(done) || done.split(";", -1).length >= 10) {
                return false;
            }
        }
        for (String word : new String[] {"calm 1", "peace 1", "soften 1 b=1", "sharpen 1 b=1"}) {
            if (word.startsWith(tail)) {
                return true;
            }
        }
        for (String end : new String[] {"", "1", " b=1", "b=1", "=1"}) {
            String close = end;
            for (int open = 0; open <= 5; open++) {
                if (isClause(tail + close)) {
                    return true;
                }
                close += ")";
            }
        }
        return false;
    }

    static int fault(String s) {
        if (isCellar(s)) {
            return -1;
        }
        for (int i = 0; i < s.length(); i++) {
            if (!canGoOn(s.substring(0, i + 1))) {
                return i;
            }
        }
        return s.length();
    }

    // ---- cellars, bottles, guests

    int feed(int sign) {
        if (sign < 0 || sign > 127) {
            return BAD;
        }
        if (now.tape.length() == 100) {
            return FULL;
        }
        now.tape += (char) sign;
        return now.tape.length();
    }

    int cellar() {
        if (now.cellars == 5) {
            return FULL;
        }
        String text = now.tape;
        now.tape = "";
        int fault = fault(text);
        if (fault >= 0) {
            return -10 - fault;
        }
        now.held = text;
        return now.cellars++;
    }

    int bottle(int kind, int v, int word) {
        if (kind < 0 || kind > 6) {
            return NONE;
        }
        if (v < 0 || v > 9 || word < -99 || word > 99) {
            return BAD;
        }
        if (now.bottles.size() == 6) {
            return FULL;
        }
        B b = new B();
        b.id = now.bottles.size();
        b.kind = kind;
        b.v = v;
        b.word = word;
        now.bottles.add(b);
        return b.id;
    }

    int guest(int mood) {
        if (mood < -99 || mood > 99) {
            return BAD;
        }
        if (now.moods.size() == 4) {
            return FULL;
        }
        now.moods.add(mood);
        return now.moods.size() - 1;
    }

    int of(int bottle, int what) {
        if (!now.bottle(bottle) || what < 0 || what > 7) {
            return -10001;
        }
        B b = now.bottles.get(bottle);
        return new int[] {b.kind, b.v, b.word, b.years, b.quarter, b.empty ? 1 : 0, now.soft(b), now.says(b)}[what];
    }

    int row(int bottle, int k, int n) {
        if (!now.bottle(bottle) || k < 0 || k > 3) {
            return NONE;
        }
        if (n < 0 || n > 9) {
            return BAD;
        }
        if (now.bottles.get(bottle).kind != 6) {
            return STATE;
        }
        int was = now.bottles.get(bottle).row[k];
        now.bottles.get(bottle).row[k] = n;
        return was;
    }

    int set(int bottle, int what, int n) {
        if (!now.bottle(bottle) || what < 0 || what > 1) {
            return NONE;
        }
        if (n < 0 || n > (what == 0 ? 199 : 3)) {
            return BAD;
        }
        B b = now.bottles.get(bottle);
        int was = what == 0 ? b.years : b.quarter;
        if (what == 0) {
            b.years = n;
        } else {
            b.quarter = n;
        }
        return was;
    }

    int mood(int guest) {
        return now.guest(guest) ? now.moods.get(guest) : -10001;
    }

    int told(int what) {
        switch (what) {
            case 0: return now.year;
            case 1: return now.last("calm", 0);
            case 2: return now.last("peace", 5);
            case 3: return bits(now.full());
            case 4: return now.allSay();
            case 5: return now.allMoods();
            default: return -10001;
        }
    }

    static int bits(List<Integer> numbers) {
        int bits = 0;
        for (int n : numbers) {
            bits += 1 << n;
        }
        return bits;
    }

    int pour(int bottle, int guest) {
        if (!now.bottle(bottle) || !now.guest(guest)) {
            return -10001;
        }
        B b = now.bottles.get(bottle);
        if (b.empty) {
            return -10003;
        }
        now.lift(guest, now.says(b));
        b.empty = true;
        return now.moods.get(guest);
    }

    int both(int one, int other, int guest) {
        if (!now.bottle(one) || !now.bottle(other) || !now.guest(guest)) {
            return -10001;
        }
        if (one == other) {
            return -10002;
        }
        B a = now.bottles.get(one);
        B b = now.bottles.get(other);
        if (a.empty || b.empty) {
            return -10003;
        }
        now.lift(guest, (now.says(a) + now.says(b)) / 2);
        a.empty = true;
        b.empty = true;
        return now.moods.get(guest);
    }

    int pass(int n) {
        if (n < 0 || n > 60) {
            return BAD;
        }
        if (now.year + n > 9999) {
            return STATE;
        }
        now = now.behind(n);
        return now.year;
    }

    // ---- years to come

    int on(int n, int what) {
        boolean some = what == 0 || what == 1 || what >= 10 && what < 16 && now.bottle(what - 10)
                || what >= 20 && what < 24 && now.guest(what - 20);
        if (!some) {
            return -10001;
        }
        if (n < 0 || n > 60) {
            return -10002;
        }
        S then = now.behind(n);
        if (what == 0) {
            return then.allSay();
        }
        if (what == 1) {
            return then.allMoods();
        }
        return what >= 20 ? then.moods.get(what - 20) : then.says(then.bottles.get(what - 10));
    }

    int when(int bottle, int what) {
        if (!now.bottle(bottle) || what < 0 || what > 1) {
            return -10001;
        }
        int best = 0;
        S then = now.copy();
        int most = then.says(then.bottles.get(bottle));
        for (int n = 1; n <= 60; n++) {
            then.goYear();
            int much = then.says(then.bottles.get(bottle));
            if (much > most) {
                best = n;
                most = much;
            }
        }
        return what == 0 ? best : most;
    }

    int ripe(int bottle) {
        if (!now.bottle(bottle)) {
            return NONE;
        }
        S then = now.copy();
        for (int n = 0; n <= 60; n++) {
            if (then.says(then.bottles.get(bottle)) >= 0) {
                return n;
            }
            then.goYear();
        }
        return -5;
    }

    int lies(int bottle) {
        if (!now.bottle(bottle)) {
            return NONE;
        }
        int[] much = new int[4];
        for (int q = 0; q < 4; q++) {
            B b = now.bottles.get(bottle).copy();
            b.quarter = q;
            much[q] = now.says(b);
        }
        for (int q = 0; q < 4; q++) {
            if (much[q] >= much[0] && much[q] >= much[1] && much[q] >= much[2] && much[q] >= much[3]) {
                return q;
            }
        }
        throw new IllegalStateException();
    }

    // ---- what to pour

    int choose(int guest, int m) {
        if (!now.guest(guest)) {
            return NONE;
        }
        if (m < -99 || m > 99) {
            return BAD;
        }
        for (int many = 0; many <= 6; many++) {
            for (int set = 0; set < 64; set++) {
                List<Integer> of = new ArrayList<>();
                int sum = now.moods.get(guest);
                for (int b : now.full()) {
                    if ((set >> b) % 2 == 1) {
                        of.add(b);
                        sum += now.says(now.bottles.get(b));
                    }
                }
                if (of.size() == many && bits(of) == set && sum == m) {
                    return set;
                }
            }
        }
        return -5;
    }

    static void orders(List<Integer> left, List<Integer> row, List<List<Integer>> all) {
        if (left.isEmpty()) {
            all.add(new ArrayList<>(row));
        }
        for (int b : left) {
            List<Integer> rest = new ArrayList<>(left);
            rest.remove((Integer) b);
            row.add(b);
            orders(rest, row, all);
            row.remove(row.size() - 1);
        }
    }

    int line(int guest, int k) {
        if (!now.guest(guest) || k < -1 || k > 5) {
            return -10001;
        }
        List<List<Integer>> all = new ArrayList<>();
        orders(now.full(), new ArrayList<>(), all);
        List<Integer> best = null;
        int greatest = -1000;
        for (List<Integer> order : all) {
            int mood = now.moods.get(guest);
            for (int b : order) {
                mood = hold(mood + now.says(now.bottles.get(b)));
            }
            if (mood > greatest) {
                greatest = mood;
                best = order;
            }
        }
        return k < 0 ? greatest : k < best.size() ? best.get(k) : -5;
    }

    int pair() {
        int best = -5;
        int nearest = 100000;
        for (int one : now.full()) {
            for (int other : now.full()) {
                int far = Math.abs(now.says(now.bottles.get(one)) + now.says(now.bottles.get(other)));
                if (one < other && far < nearest) {
                    nearest = far;
                    best = 10 * one + other;
                }
            }
        }
        return best;
    }

    /** All rows of partners (9: nobody), of which the first one with the most pairs is kept. */
    private void rows(int[] row, int b, int[][] best) {
        if (b == row.length) {
            int many = 0;
            for (int partner : row) {
                many += partner == 9 ? 0 : 1;
            }
            if (best[0] == null || many > best[1][0]
                    || many == best[1][0] && java.util.Arrays.compare(row, best[0]) < 0) {
                best[0] = row.clone();
                best[1][0] = many;
            }
            return;
        }
        if (row[b] != -1) {
            rows(row, b + 1, best);
            return;
        }
        B one = now.bottles.get(b);
        row[b] = 9;
        rows(row, b + 1, best);
        for (int c = row.length - 1; c > b; c--) {
            B other = now.bottles.get(c);
            if (row[c] == -1 && !one.empty && !other.empty
                    && Math.abs(now.says(one) + now.says(other)) <= now.last("peace", 5)) {
                row[b] = c;
                row[c] = b;
                rows(row, b + 1, best);
                row[c] = -1;
            }
        }
        row[b] = -1;
    }

    int match(int what) {
        if (what != 0 && !(what >= 10 && what < 16 && now.bottle(what - 10))) {
            return NONE;
        }
        int[][] best = {null, {0}};
        int[] row = new int[now.bottles.size()];
        java.util.Arrays.fill(row, -1);
        rows(row, 0, best);
        if (what == 0) {
            return best[1][0] / 2;
        }
        return best[0][what - 10] == 9 ? -5 : best[0][what - 10];
    }

    int words(int bottle, int s, int what) {
        if (!now.bottle(bottle) || what < 0 || what > 1) {
            return -10001;
        }
        if (s < -999 || s > 999) {
            return -10002;
        }
        List<Integer> words = new ArrayList<>();
        for (int word = -99; word <= 99; word++) {
            B b = now.bottles.get(bottle).copy();
            b.word = word;
            if (now.says(b) == s) {
                words.add(word);
            }
        }
        return what == 0 ? words.size() : words.isEmpty() ? -10005 : words.get(0);
    }

    // ---- seen, odds

    int see(int bottle, int says, int n) {
        if (bottle == -1) {
            now.seen.clear();
            return 0;
        }
        if (!now.bottle(bottle)) {
            return NONE;
        }
        if (says < -999 || says > 999 || n < 0 || n > 20) {
            return BAD;
        }
        if (now.seen.size() == 5) {
            return FULL;
        }
        now.seen.add(new int[] {bottle, says, n});
        return now.seen.size();
    }

    private static boolean allSo(S s) {
        for (int[] row : s.seen) {
            S then = s.behind(row[2]);
            if (then.says(then.bottles.get(row[0])) != row[1]) {
                return false;
            }
        }
        return true;
    }

    int old(int bottle, int what) {
        if (!now.bottle(bottle) || what < 0 || what > 1) {
            return NONE;
        }
        List<Integer> fit = new ArrayList<>();
        for (int years = 0; years <= 99; years++) {
            S s = now.copy();
            s.bottles.get(bottle).years = years;
            if (allSo(s)) {
                fit.add(years);
            }
        }
        return what == 0 ? fit.size() : fit.isEmpty() ? -5 : fit.get(0);
    }

    int firm(int bottle, int what) {
        if (!now.bottle(bottle) || what < 0 || what > 1) {
            return NONE;
        }
        List<Integer> fit = new ArrayList<>();
        for (int v = 0; v <= 9; v++) {
            S s = now.copy();
            s.bottles.get(bottle).v = v;
            if (allSo(s)) {
                fit.add(v);
            }
        }
        return what == 0 ? fit.size() : fit.isEmpty() ? -5 : fit.get(0);
    }

    int whose(int s, int n) {
        if (s < -999 || s > 999 || n < 0 || n > 40) {
            return BAD;
        }
        List<Integer> those = new ArrayList<>();
        S then = now.behind(n);
        for (B b : then.bottles) {
            if (then.says(b) == s) {
                those.add(b.id);
            }
        }
        return bits(those);
    }

    static int gcd(int a, int b) {
        return b == 0 ? Math.abs(a) : gcd(b, a % b);
    }

    static long part(int above, int below, int part) {
        return (part == 0 ? above : below) / gcd(above, below);
    }

    long odds(int guest, int m, int part) {
        if (!now.guest(guest) || m < -99 || m > 99 || part < 0 || part > 1 || now.full().isEmpty()) {
            return NO;
        }
        int likely = 0;
        for (int b : now.full()) {
            S s = now.copy();
            s.lift(guest, s.says(s.bottles.get(b)));
            likely += s.moods.get(guest) >= m ? 1 : 0;
        }
        return part(likely, now.full().size(), part);
    }

    long mean(int n, int part) {
        if (n < 0 || n > 60 || part < 0 || part > 1 || now.full().isEmpty()) {
            return NO;
        }
        return part(now.behind(n).allSay(), now.full().size(), part);
    }

    // ---- evenings, books

    int evening(int what, int bottle, int guest) {
        if (what == -1) {
            now.evening.clear();
            return 0;
        }
        if (what < 0 || what > 3 || what > 0 && !now.bottle(bottle) || what == 1 && !now.guest(guest)) {
            return NONE;
        }
        if (now.evening.size() == 8) {
            return FULL;
        }
        now.evening.add(new int[] {what, bottle, guest});
        return now.evening.size();
    }

    int done(int what) {
        if (what < 0 || what > 1) {
            return -10001;
        }
        S s = now.copy();
        for (int[] row : now.evening) {
            B b = row[0] == 0 ? null : s.bottles.get(row[1]);
            if (row[0] == 0) {
                s.goYear();
            } else if (row[0] == 1 && !b.empty) {
                s.lift(row[2], s.says(b));
                b.empty = true;
            } else if (row[0] == 2) {
                b.quarter = b.quarter == 3 ? 0 : b.quarter + 1;
            } else if (row[0] == 3) {
                b.word = 0;
            }
        }
        return what == 0 ? s.allMoods() : s.allSay();
    }

    int book(int bottle, int says) {
        if (bottle == -1) {
            now.book.clear();
            return 0;
        }
        if (!now.bottle(bottle)) {
            return NONE;
        }
        if (says < -999 || says > 999) {
            return BAD;
        }
        if (now.book.size() == 8) {
            return FULL;
        }
        now.book.add(new int[] {bottle, says});
        return now.book.size();
    }

    int looked() {
        for (int r = 0; r < now.book.size(); r++) {
            if (now.says(now.bottles.get(now.book.get(r)[0])) != now.book.get(r)[1]) {
                return r;
            }
        }
        return -5;
    }

    // ---- acts, the image: bodies by KIND and act, 0 where a KIND has none

    private static final int[] ABOVE = {-1, 0, 0, 0, 1, 2, 3};
    private static final int[][] BODY = {{1, 2, 3}, {11, 0, 0}, {0, 21, 0}, {0, 0, 31}, {0, 0, 41}, {51, 0, 0},
        {0, 61, 0}};

    private int run(B b, int kind, int act, int x) {
        int k = kind;
        while (BODY[k][act] == 0) {
            k = ABOVE[k];
        }
        int body = BODY[k][act];
        trace.add(body);
        switch (body) {
            case 1: return x + b.id;
            case 2: return run(b, b.kind, 0, x) - b.v;
            case 3: return run(b, b.kind, 1, x) * 2;
            case 11: return run(b, ABOVE[k], 0, x * 3);
            case 21: return -run(b, ABOVE[k], 1, x);
            case 31: return run(b, ABOVE[k], 2, x) ^ 7;
            case 41: return run(b, ABOVE[k], 2, x - 1) + run(b, b.kind, 0, 2);
            case 51: return run(b, ABOVE[k], 0, x) ^ b.id;
            default: return run(b, ABOVE[k], 1, x) + b.v;
        }
    }

    int act(int bottle, int act, int x) {
        trace.clear();
        if (!now.bottle(bottle) || act < 0 || act > 2) {
            return 0;
        }
        return run(now.bottles.get(bottle), now.bottles.get(bottle).kind, act, x);
    }

    int trace(int i) {
        return i >= 0 && i < 20 && i < trace.size() ? trace.get(i) : NONE;
    }

    int as(int bottle, int k) {
        if (!now.bottle(bottle) || k < 0 || k > 6) {
            return NONE;
        }
        for (int kind = now.bottles.get(bottle).kind; kind >= 0; kind = ABOVE[kind]) {
            if (kind == k) {
                return now.bottles.get(bottle).v;
            }
        }
        return -6;
    }

    int image() {
        image = now.copy();
        return now.bottles.size();
    }

    int undo() {
        if (image == null) {
            return STATE;
        }
        now = image.copy();
        return now.bottles.size();
    }

    int count(int what) {
        switch (what) {
            case 0: return now.bottles.size();
            case 1: return now.cellars;
            case 2: return now.seen.size();
            case 3: return now.evening.size();
            case 4: return now.book.size();
            case 5: return now.tape.length();
            case 6: return trace.size();
            case 7: return now.moods.size();
            default: return NONE;
        }
    }
}
