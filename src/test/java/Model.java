import java.math.BigInteger;
import java.util.ArrayList;
import java.util.Arrays;
import java.util.List;
import java.util.function.IntPredicate;
import java.util.function.Predicate;

/**
 * The document in other words: as slow and as literal as can be, with lists, exceptions and real
 * subclasses. It shares no code and no way of counting with CoinLand, which is held against it.
 */
final class Model {
    static final int NONE = -1, BAD = -2, STATE = -3, FULL = -4;
    static final long NO = Long.MIN_VALUE;

    /** What a TEST sees of a COIN with a BASE. */
    record Sight(int c, int k, int v, int b, int d, int p) { }

    record Clause(String word, int n, Predicate<Sight> condition) { }

    static final class Fault extends RuntimeException {
        final int place;

        Fault(int place) {
            super(null, null, false, false);
            this.place = place;
        }
    }

    /** Reads by recursive descent; the first byte that does not fit is thrown. */
    static final class Parser {
        final String text;
        int at = 0;
        int open = 0;

        Parser(String text) {
            this.text = text;
        }

        char peek() {
            return at < text.length() ? text.charAt(at) : (char) 999;
        }

        void expect(String signs) {
            for (char sign : signs.toCharArray()) {
                if (peek() != sign) {
                    throw new Fault(at);
                }
                at++;
            }
        }

        List<Clause> land() {
            List<Clause> clauses = new ArrayList<>();
            clauses.add(clause());
            while (at < text.length()) {
                if (clauses.size() == 10) {
                    throw new Fault(at);
                }
                expect(";");
                clauses.add(clause());
            }
            return clauses;
        }

        Clause clause() {
            for (String word : List.of("top", "cheat", "dear", "mean")) {
                if (peek() == word.charAt(0)) {
                    expect(word + " ");
                    int n = number();
                    if (word.equals("top") || word.equals("cheat")) {
                        return new Clause(word, n, null);
                    }
                    expect(" ");
                    return new Clause(word, n, e());
                }
            }
            throw new Fault(at);
        }

        int number() {
            if (!Character.isDigit(peek())) {
                throw new Fault(at);
            }
            int n = text.charAt(at++) - '0';
            if (n > 0 && Character.isDigit(peek())) {
                n = n * 10 + text.charAt(at++) - '0';
            }
            return n;
        }

        Predicate<Sight> e() {
            Predicate<Sight> t = t();
            if (peek() == '|') {
                at++;
                return t.or(e());
            }
            return t;
        }

        Predicate<Sight> t() {
            Predicate<Sight> f = f();
            if (peek() == '&') {
                at++;
                return f.and(t());
            }
            return f;
        }

        Predicate<Sight> f() {
            if (peek() == '!' || peek() == '(') {
                if (open == 5) {
                    throw new Fault(at);
                }
                boolean turned = text.charAt(at++) == '!';
                open++;
                Predicate<Sight> inner;
                if (turned) {
                    inner = f().negate();
                } else {
                    inner = e();
                    expect(")");
                }
                open--;
                return inner;
            }
            return test();
        }

        Predicate<Sight> test() {
            char what = peek();
            if ("ckvbdp".indexOf(what) < 0) {
                throw new Fault(at);
            }
            at++;
            char sign = peek();
            if ("<=>".indexOf(sign) < 0) {
                throw new Fault(at);
            }
            at++;
            int n = number();
            return sight -> {
                int seen = switch (what) {
                    case 'c' -> sight.c();
                    case 'k' -> sight.k();
                    case 'v' -> sight.v();
                    case 'b' -> sight.b();
                    case 'd' -> sight.d();
                    default -> sight.p();
                };
                return sign == '<' ? seen < n : sign == '=' ? seen == n : seen > n;
            };
        }
    }

    /** The KINDS as real classes, so that super and the choice of a body are Java's own. */
    class Coin {
        final int i;
        final int v;
        int base;
        int purse;
        int[] row = new int[4];

        Coin(int i, int v, int base, int purse) {
            this.i = i;
            this.v = v;
            this.base = base;
            this.purse = purse;
        }

        int kind() {
            return 0;
        }

        int plain(int b, int p, int onDay) {
            Sight sight = new Sight(i, kind(), v, b, onDay % 10, p);
            int worth = b;
            for (Clause clause : clauses()) {
                if (clause.condition() != null && clause.condition().test(sight)) {
                    worth += clause.word().equals("dear") ? clause.n() : -clause.n();
                }
            }
            return Math.max(1, worth);
        }

        int worth(int b, int p, int onDay) {
            return plain(b, p, onDay);
        }

        int worth() {
            return worth(base, purse, day);
        }

        int shows(int x) {
            ran.add(1);
            return x + i;
        }

        int pays(int x) {
            ran.add(2);
            return shows(x) - v;
        }

        int tells(int x) {
            ran.add(3);
            return pays(x) * 2;
        }
    }

    class Round extends Coin {
        Round(int i, int v, int base, int purse) {
            super(i, v, base, purse);
        }

        @Override int kind() {
            return 1;
        }

        @Override int worth(int b, int p, int onDay) {
            return Math.max(1, super.worth(b, p, onDay) + v / 3);
        }

        @Override int shows(int x) {
            ran.add(11);
            return super.shows(x * 3);
        }
    }

    class Holed extends Coin {
        Holed(int i, int v, int base, int purse) {
            super(i, v, base, purse);
        }

        @Override int kind() {
            return 2;
        }

        @Override int worth(int b, int p, int onDay) {
            return Math.max(1, super.worth(b, p, onDay) - 1);
        }

        @Override int pays(int x) {
            ran.add(21);
            return -super.pays(x);
        }
    }

    class Worn extends Coin {
        Worn(int i, int v, int base, int purse) {
            super(i, v, base, purse);
        }

        @Override int kind() {
            return 3;
        }

        @Override int worth(int b, int p, int onDay) {
            return Math.max(1, super.worth(b, p, onDay) - onDay / 10);
        }

        @Override int tells(int x) {
            ran.add(31);
            return super.tells(x) ^ 7;
        }
    }

    class Clipped extends Round {
        Clipped(int i, int v, int base, int purse) {
            super(i, v, base, purse);
        }

        @Override int kind() {
            return 4;
        }

        @Override int worth(int b, int p, int onDay) {
            return Math.max(1, super.worth(b, p, onDay) - 2);
        }

        @Override int tells(int x) {
            ran.add(41);
            return super.tells(x - 1) + shows(2);
        }
    }

    class False extends Holed {
        False(int i, int v, int base, int purse) {
            super(i, v, base, purse);
        }

        @Override int kind() {
            return 5;
        }

        @Override int worth(int b, int p, int onDay) {
            return onDay >= 5 ? 1 : Math.max(1, super.worth(b, p, onDay));
        }

        @Override int shows(int x) {
            ran.add(51);
            return super.shows(x) ^ i;
        }
    }

    class Told extends Worn {
        Told(int i, int v, int base, int purse) {
            super(i, v, base, purse);
        }

        @Override int kind() {
            return 6;
        }

        @Override int worth(int b, int p, int onDay) {
            return Math.max(1, super.worth(b, p, onDay) + row[onDay % 4]);
        }

        @Override int pays(int x) {
            ran.add(61);
            return super.pays(x) + v;
        }
    }

    String tape = "";
    List<List<Clause>> lands = new ArrayList<>();
    List<Coin> coins = new ArrayList<>();
    List<Integer> wares = new ArrayList<>();
    List<int[]> buys = new ArrayList<>();
    List<int[]> slates = new ArrayList<>();
    List<Integer> plans = new ArrayList<>();
    List<int[]> booked = new ArrayList<>();
    int day = 0;
    List<Integer> ran = new ArrayList<>();
    Model kept = null;

    List<Clause> clauses() {
        return lands.isEmpty() ? List.of() : lands.get(lands.size() - 1);
    }

    int lastOf(String word, int without) {
        int last = without;
        for (Clause clause : clauses()) {
            if (clause.word().equals(word)) {
                last = clause.n();
            }
        }
        return last;
    }

    int top() {
        return Math.min(9, Math.max(1, lastOf("top", 9)));
    }

    int cheat() {
        return lastOf("cheat", 0);
    }

    boolean isCoin(int coin) {
        return coin >= 0 && coin < coins.size();
    }

    static boolean in(int n, int least, int most) {
        return least <= n && n <= most;
    }

    Coin make(int kind, int i, int v, int base, int purse) {
        return switch (kind) {
            case 0 -> new Coin(i, v, base, purse);
            case 1 -> new Round(i, v, base, purse);
            case 2 -> new Holed(i, v, base, purse);
            case 3 -> new Worn(i, v, base, purse);
            case 4 -> new Clipped(i, v, base, purse);
            case 5 -> new False(i, v, base, purse);
            default -> new Told(i, v, base, purse);
        };
    }

    int feed(int sign) {
        if (!in(sign, 0, 127)) {
            return BAD;
        }
        if (tape.length() == 100) {
            return FULL;
        }
        tape += (char) sign;
        return tape.length();
    }

    int land() {
        if (lands.size() == 5) {
            return FULL;
        }
        String text = tape;
        tape = "";
        try {
            lands.add(new Parser(text).land());
            return lands.size() - 1;
        } catch (Fault fault) {
            return -10 - fault.place;
        }
    }

    int coin(int kind, int v, int base, int purse) {
        if (!in(kind, 0, 6)) {
            return NONE;
        }
        if (!in(v, 0, 9) || !in(base, 1, 9) || !in(purse, 0, 9)) {
            return BAD;
        }
        if (coins.size() == 4) {
            return FULL;
        }
        coins.add(make(kind, coins.size(), v, base, purse));
        return coins.size() - 1;
    }

    int of(int coin, int what) {
        if (!isCoin(coin)) {
            return NONE;
        }
        Coin it = coins.get(coin);
        return switch (what) {
            case 0 -> it.kind();
            case 1 -> it.v;
            case 2 -> it.base;
            case 3 -> it.purse;
            case 4 -> it.worth();
            case 11, 12, 13, 14, 15, 16, 17, 18, 19 -> it.worth(what - 10, it.purse, day);
            default -> NONE;
        };
    }

    int row(int coin, int k, int n) {
        if (!isCoin(coin) || !in(k, 0, 3)) {
            return NONE;
        }
        if (!in(n, 0, 9)) {
            return BAD;
        }
        if (!(coins.get(coin) instanceof Told)) {
            return STATE;
        }
        int was = coins.get(coin).row[k];
        coins.get(coin).row[k] = n;
        return was;
    }

    int set(int coin, int what, int n) {
        if (!isCoin(coin) || !in(what, 0, 1)) {
            return NONE;
        }
        if (what == 0 && n == 0 || !in(n, 0, 9)) {
            return BAD;
        }
        Coin it = coins.get(coin);
        int was = what == 0 ? it.base : it.purse;
        if (what == 0) {
            it.base = n;
        } else {
            it.purse = n;
        }
        return was;
    }

    int ware(int price) {
        if (!in(price, 1, 60)) {
            return BAD;
        }
        if (wares.size() == 5) {
            return FULL;
        }
        wares.add(price);
        return wares.size() - 1;
    }

    int pass(int n) {
        if (!in(n, 0, 60)) {
            return BAD;
        }
        if (day + n > 9999) {
            return STATE;
        }
        day += n;
        return day;
    }

    int rich() {
        return coins.stream().mapToInt(coin -> coin.worth() * coin.purse).sum();
    }

    int told(int what) {
        return switch (what) {
            case 0 -> day;
            case 1 -> top();
            case 2 -> cheat();
            case 3 -> rich();
            default -> what >= 10 && what < 10 + wares.size() ? wares.get(what - 10) : NONE;
        };
    }

    int buy(int price, int a, int b, int c, int d) {
        if (price == -1) {
            buys.clear();
            return 0;
        }
        int[] buy = {price, a, b, c, d};
        for (int i = 0; i < 4; i++) {
            if (!in(buy[i + 1], -4, 4) || !isCoin(i) && buy[i + 1] != 0) {
                return BAD;
            }
        }
        if (!in(price, 0, 99)) {
            return BAD;
        }
        if (buys.size() == 6) {
            return FULL;
        }
        buys.add(buy);
        return buys.size();
    }

    /** All GUESSES by which the first so many BUYS are SO with this CHEAT, as rows of BASES. */
    List<int[]> guesses(int ofBuys, int cheat) {
        List<int[]> all = new ArrayList<>();
        all.add(new int[0]);
        for (int coin = 0; coin < coins.size(); coin++) {
            List<int[]> longer = new ArrayList<>();
            for (int[] guess : all) {
                for (int base = 1; base <= top(); base++) {
                    int[] next = Arrays.copyOf(guess, coin + 1);
                    next[coin] = base;
                    longer.add(next);
                }
            }
            all = longer;
        }
        int[][] worths = worthTable();
        List<int[]> left = new ArrayList<>();
        for (int[] guess : all) {
            boolean isSo = true;
            for (int[] buy : buys.subList(0, ofBuys)) {
                int sum = 0;
                for (int coin = 0; coin < guess.length; coin++) {
                    sum += worths[coin][guess[coin]] * buy[coin + 1];
                }
                isSo &= buy[0] <= sum && sum <= buy[0] + cheat;
            }
            if (isSo) {
                left.add(guess);
            }
        }
        return left;
    }

    int[][] worthTable() {
        int[][] worths = new int[coins.size()][10];
        for (Coin coin : coins) {
            for (int base = 1; base <= 9; base++) {
                worths[coin.i][base] = coin.worth(base, coin.purse, day);
            }
        }
        return worths;
    }

    List<int[]> guesses() {
        return guesses(buys.size(), cheat());
    }

    int left() {
        return guesses().size();
    }

    int range(int coin, int what) {
        if (!isCoin(coin) || !in(what, 0, 1)) {
            return NONE;
        }
        var bases = guesses().stream().mapToInt(guess -> guess[coin]);
        return (what == 0 ? bases.min() : bases.max()).orElse(-5);
    }

    int known() {
        int bits = 0;
        for (int coin = 0; coin < coins.size(); coin++) {
            if (range(coin, 0) >= 0 && range(coin, 0) == range(coin, 1)) {
                bits += (int) Math.pow(2, coin);
            }
        }
        return bits;
    }

    static long fraction(long above, long below, int part) {
        if (below == 0) {
            return NO;
        }
        long divisor = BigInteger.valueOf(above).gcd(BigInteger.valueOf(below)).longValue();
        return (part == 0 ? above : below) / divisor;
    }

    long likely(int coin, int w, int part) {
        if (!isCoin(coin) || !in(w, 1, 9) || !in(part, 0, 1)) {
            return NO;
        }
        List<int[]> left = guesses();
        return fraction(left.stream().filter(guess -> guess[coin] == w).count(), left.size(), part);
    }

    int alike(int one, int other) {
        if (!isCoin(one) || !isCoin(other)) {
            return NONE;
        }
        if (one == other) {
            return BAD;
        }
        int[][] worths = worthTable();
        List<int[]> left = guesses();
        return !left.isEmpty()
            && left.stream().allMatch(g -> worths[one][g[one]] == worths[other][g[other]]) ? 1 : 0;
    }

    int wrong() {
        for (int i = 0; i < buys.size(); i++) {
            if (guesses(i + 1, cheat()).isEmpty()) {
                return i;
            }
        }
        return -5;
    }

    int cheated() {
        for (int cheat = 0; cheat <= 60; cheat++) {
            if (!guesses(buys.size(), cheat).isEmpty()) {
                return cheat;
            }
        }
        return -5;
    }

    int hold(int what) {
        if (!in(what, 0, 1)) {
            return NONE;
        }
        List<int[]> left = guesses();
        if (left.isEmpty() || coins.size() < 2) {
            return -5;
        }
        int[][] worths = worthTable();
        int best = Integer.MAX_VALUE;
        int pair = 0;
        for (int i = coins.size() - 2; i >= 0; i--) {
            for (int j = coins.size() - 1; j > i; j--) {
                int more = 0;
                int less = 0;
                for (int[] guess : left) {
                    more += worths[i][guess[i]] > worths[j][guess[j]] ? 1 : 0;
                    less += worths[i][guess[i]] < worths[j][guess[j]] ? 1 : 0;
                }
                int worst = Math.max(left.size() - more - less, Math.max(more, less));
                if (worst <= best) {
                    best = worst;
                    pair = 10 * i + j;
                }
            }
        }
        return what == 0 ? pair : best;
    }

    /** All rows of how many of each, in their order, each between its bounds. */
    static List<int[]> rows(int[] least, int[] most) {
        List<int[]> all = new ArrayList<>();
        all.add(new int[0]);
        for (int i = 0; i < most.length; i++) {
            List<int[]> longer = new ArrayList<>();
            for (int[] row : all) {
                for (int n = least[i]; n <= most[i]; n++) {
                    int[] next = Arrays.copyOf(row, i + 1);
                    next[i] = n;
                    longer.add(next);
                }
            }
            all = longer;
        }
        return all;
    }

    static int taken(int[] row) {
        return Arrays.stream(row).map(Math::abs).sum();
    }

    static int sum(int[] row, int[] worths) {
        int sum = 0;
        for (int i = 0; i < row.length; i++) {
            sum += row[i] * worths[i];
        }
        return sum;
    }

    int[] purses() {
        return coins.stream().mapToInt(coin -> coin.purse).toArray();
    }

    int[] worths(int[] purses) {
        return coins.stream().mapToInt(coin -> coin.worth(coin.base, purses[coin.i], day)).toArray();
    }

    /** The row that pays p, or null. */
    int[] paying(int p, int[] purses, int back) {
        int[] least = new int[purses.length];
        Arrays.fill(least, -back);
        int[] worths = worths(purses);
        int[] best = null;
        for (int[] row : rows(least, purses)) {
            if (sum(row, worths) == p && (best == null || taken(row) < taken(best))) {
                best = row;
            }
        }
        return best;
    }

    int told(int[] row, int k) {
        if (row == null || k >= row.length) {
            return -5;
        }
        return k == -1 ? taken(row) : row[k];
    }

    int pay(int p, int k) {
        if (!in(k, -1, 3)) {
            return NONE;
        }
        return !in(p, 0, 99) ? BAD : told(paying(p, purses(), 0), k);
    }

    int ways(int p) {
        if (!in(p, 0, 99)) {
            return BAD;
        }
        // Coin by coin, over what is still to be paid.
        int[] ways = new int[p + 1];
        ways[p] = 1;
        for (Coin coin : coins) {
            int[] next = new int[p + 1];
            for (int rest = 0; rest <= p; rest++) {
                for (int n = 0; n <= coin.purse && rest - n * coin.worth() >= 0; n++) {
                    next[rest - n * coin.worth()] += ways[rest];
                }
            }
            ways = next;
        }
        return ways[0];
    }

    int change(int p) {
        return !in(p, 0, 99) ? BAD : told(paying(p, purses(), 3), -1);
    }

    int never() {
        for (int p = 1; p <= 99; p++) {
            if (ways(p) == 0) {
                return p;
            }
        }
        return -5;
    }

    int carry(int n, int k) {
        if (!in(k, -1, 3)) {
            return NONE;
        }
        if (!in(n, 1, 30)) {
            return BAD;
        }
        int[] most = new int[coins.size()];
        Arrays.fill(most, 6);
        int[] worths = worths(purses());
        int[] best = null;
        for (int[] row : rows(new int[coins.size()], most)) {
            if (best != null && taken(row) >= taken(best)) {
                continue;
            }
            boolean[] paid = new boolean[n + 1];
            paid[0] = true;
            for (int i = 0; i < row.length; i++) {
                boolean[] more = new boolean[n + 1];
                for (int sum = 0; sum <= n; sum++) {
                    for (int j = 0; j <= row[i] && sum + j * worths[i] <= n; j++) {
                        more[sum + j * worths[i]] |= paid[sum];
                    }
                }
                paid = more;
            }
            boolean all = true;
            for (boolean one : paid) {
                all &= one;
            }
            if (all) {
                best = row;
            }
        }
        return told(best, k);
    }

    long rate(int one, int other, int part) {
        if (!isCoin(one) || !isCoin(other) || !in(part, 0, 1)) {
            return NO;
        }
        return fraction(coins.get(one).worth(), coins.get(other).worth(), part);
    }

    int bought(int s, int k) {
        if (!in(k, -1, 4)) {
            return NONE;
        }
        if (!in(s, 0, 99)) {
            return BAD;
        }
        int[] most = new int[wares.size()];
        Arrays.fill(most, 4);
        int[] prices = wares.stream().mapToInt(price -> price).toArray();
        List<int[]> found = new ArrayList<>();
        for (int[] row : rows(new int[wares.size()], most)) {
            if (taken(row) <= 4 && sum(row, prices) == s) {
                found.add(row);
            }
        }
        if (k == -1) {
            return found.size();
        }
        found.sort((a, b) -> Arrays.compare(b, a));
        return found.isEmpty() || k >= wares.size() ? -5 : found.get(0)[k];
    }

    int slate(int x, int y, int number) {
        if (x == -1) {
            slates.clear();
            return 0;
        }
        if (!in(x, 0, 19) || !in(y, 0, 19) || !in(number, 0, 399)) {
            return BAD;
        }
        if (slates.size() == 6) {
            return FULL;
        }
        slates.add(new int[] {x, y, number});
        return slates.size();
    }

    int counts(int what) {
        List<Integer> found = new ArrayList<>();
        for (int b = 2; b <= 20; b++) {
            int base = b;
            if (slates.stream().allMatch(s -> s[0] < base && s[1] < base && s[2] == base * s[0] + s[1])) {
                found.add(b);
            }
        }
        return switch (what) {
            case 0 -> found.size();
            case 1 -> found.isEmpty() ? -5 : found.get(0);
            default -> NONE;
        };
    }

    /** Every single coin out of PURSE, by its WORTH. */
    List<Integer> drawn() {
        List<Integer> all = new ArrayList<>();
        for (Coin coin : coins) {
            for (int i = 0; i < coin.purse; i++) {
                all.add(coin.worth());
            }
        }
        return all;
    }

    long share(IntPredicate counted, int part) {
        List<Integer> all = drawn();
        return fraction(all.stream().mapToInt(w -> w).filter(counted).count(), all.size(), part);
    }

    long odds(int q, int part) {
        return !in(q, 1, 30) || !in(part, 0, 1) ? NO : share(worth -> worth >= q, part);
    }

    long mean(int part) {
        List<Integer> all = drawn();
        return in(part, 0, 1) ? fraction(all.stream().mapToInt(w -> w).sum(), all.size(), part) : NO;
    }

    int lasting(int coin) {
        if (!isCoin(coin)) {
            return NONE;
        }
        Coin it = coins.get(coin);
        for (int days = 0; days <= 99; days++) {
            if (it.worth(it.base, it.purse, day + days) < it.worth()) {
                return days;
            }
        }
        return -5;
    }

    int plan(int price) {
        if (price == -1) {
            plans.clear();
            return 0;
        }
        if (!in(price, 0, 99)) {
            return BAD;
        }
        if (plans.size() == 6) {
            return FULL;
        }
        plans.add(price);
        return plans.size();
    }

    int made(int what) {
        int[] purses = purses();
        int paid = 0;
        for (int price : plans) {
            int[] row = paying(price, purses, 0);
            if (row == null) {
                break;
            }
            for (int i = 0; i < row.length; i++) {
                purses[i] -= row[i];
            }
            paid++;
        }
        return what == 0 ? paid : what == 1 ? sum(purses, worths(purses)) : NONE;
    }

    int book(int coin, int worth) {
        if (coin == -1) {
            booked.clear();
            return 0;
        }
        if (!isCoin(coin)) {
            return NONE;
        }
        if (!in(worth, 1, 99)) {
            return BAD;
        }
        if (booked.size() == 8) {
            return FULL;
        }
        booked.add(new int[] {coin, worth});
        return booked.size();
    }

    int looked() {
        for (int i = 0; i < booked.size(); i++) {
            if (coins.get(booked.get(i)[0]).worth() != booked.get(i)[1]) {
                return i;
            }
        }
        return -5;
    }

    int act(int coin, int act, int x) {
        ran.clear();
        if (!isCoin(coin)) {
            return 0;
        }
        Coin it = coins.get(coin);
        return switch (act) {
            case 0 -> it.shows(x);
            case 1 -> it.pays(x);
            case 2 -> it.tells(x);
            default -> 0;
        };
    }

    int trace(int i) {
        return in(i, 0, Math.min(20, ran.size()) - 1) ? ran.get(i) : NONE;
    }

    int as(int coin, int k) {
        if (!isCoin(coin) || !in(k, 0, 6)) {
            return NONE;
        }
        Coin it = coins.get(coin);
        List<Class<?>> kinds = List.of(Coin.class, Round.class, Holed.class, Worn.class, Clipped.class,
            False.class, Told.class);
        return kinds.get(k).isInstance(it) ? it.v : -6;
    }

    int image() {
        kept = new Model();
        kept.become(this);
        return coins.size();
    }

    int undo() {
        if (kept == null) {
            return STATE;
        }
        become(kept);
        return coins.size();
    }

    void become(Model other) {
        tape = other.tape;
        lands = new ArrayList<>(other.lands);
        coins = new ArrayList<>();
        for (Coin coin : other.coins) {
            Coin copy = make(coin.kind(), coin.i, coin.v, coin.base, coin.purse);
            copy.row = coin.row.clone();
            coins.add(copy);
        }
        wares = new ArrayList<>(other.wares);
        buys = new ArrayList<>(other.buys);
        slates = new ArrayList<>(other.slates);
        plans = new ArrayList<>(other.plans);
        booked = new ArrayList<>(other.booked);
        day = other.day;
    }

    int count(int what) {
        return switch (what) {
            case 0 -> coins.size();
            case 1 -> wares.size();
            case 2 -> lands.size();
            case 3 -> buys.size();
            case 4 -> slates.size();
            case 5 -> plans.size();
            case 6 -> booked.size();
            case 7 -> tape.length();
            case 8 -> ran.size();
            default -> NONE;
        };
    }
}
