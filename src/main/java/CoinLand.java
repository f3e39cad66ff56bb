import java.util.Arrays;

/** Coins without figures, each worth what it is taken for, and lands that tell what is dearer when. */
public final class CoinLand {
    public static final int NONE = -1, BAD = -2, STATE = -3, FULL = -4;
    public static final long NO = Long.MIN_VALUE;

    private static final int NOTHING = -5;
    private static final int OTHER_KIND = -6;
    private static final int FAULT = -10;

    private static final int MOST_COINS = 4;
    private static final int MOST_WARES = 5;
    private static final int MOST_LANDS = 5;
    private static final int MOST_BUYS = 6;
    private static final int MOST_SLATES = 6;
    private static final int MOST_PLANNED = 6;
    private static final int MOST_BOOKED = 8;
    private static final int MOST_SIGNS = 100;
    private static final int MOST_CLAUSES = 10;
    private static final int MOST_OPEN = 5;
    private static final int MOST_TRACED = 20;
    private static final int MOST_CHEATED = 60;
    private static final int MOST_WARES_BOUGHT = 4;
    private static final int MOST_BACK = 3;
    private static final int MOST_CARRIED = 6;
    private static final int LAST_DAY = 9999;
    private static final int LAST_PRICE = 99;
    private static final int LAST_BASE = 9;
    private static final int LEAST_COUNTING = 2;
    private static final int LAST_COUNTING = 20;

    private static final int COIN = 0;
    private static final int ROUND = 1;
    private static final int HOLED = 2;
    private static final int WORN = 3;
    private static final int CLIPPED = 4;
    private static final int FALSE = 5;
    private static final int TOLD = 6;
    private static final int[] KIND_ABOVE = {-1, 0, 0, 0, 1, 2, 3};

    /** The columns of a COIN; of a TOLD one's ROW there are four. */
    private static final int KIND = 0;
    private static final int V = 1;
    private static final int BASE = 2;
    private static final int PURSE = 3;
    private static final int ROW = 4;
    private static final int ROW_LENGTH = 4;

    /** The words that CLAUSES begin with. */
    private static final int TOP = 0;
    private static final int CHEAT = 1;
    private static final int DEAR = 2;
    private static final int MEAN = 3;

    /** A TEST in a CLAUSE's code is this and more: so it is never one of the tape's signs. */
    private static final int TEST = 128;

    private static final int SHOWS = 0;
    private static final int PAYS = 1;
    private static final int TELLS = 2;
    /** The bodies of shows, pays and tells, KIND by KIND; 0 where a KIND has none. */
    private static final int[] BODIES = {
        1, 2, 3, 11, 0, 0, 0, 21, 0, 0, 0, 31, 0, 0, 41, 51, 0, 0, 0, 61, 0
    };
    /** No act goes this deep: the deepest one has five bodies open at once. */
    private static final int MOST_DEPTH = 20;

    private final World now = new World();
    private final World kept = new World();
    private boolean isKept = false;
    private final Reader reader = new Reader(now.tape);
    private final Guesses guesses = new Guesses(now);
    private final Payer payer = new Payer(now);
    private final Basket basket = new Basket(now.wares);
    private final Acts acts = new Acts();

    public CoinLand() {
    }

    // ---- lands, coins, wares

    public int feed(int sign) {
        if (isOutside(sign, 0, 127)) {
            return BAD;
        }
        if (now.tape.isFull()) {
            return FULL;
        }
        now.tape.put(now.tape.add(), 0, sign);
        return now.tape.rows();
    }

    public int land() {
        if (now.lands >= MOST_LANDS) {
            return FULL;
        }
        Land read = reader.read();
        now.tape.clear();
        if (read == null) {
            return FAULT - reader.place();
        }
        now.land = read;
        now.lands++;
        return now.lands - 1;
    }

    public int coin(int kind, int v, int base, int purse) {
        if (isOutside(kind, COIN, TOLD)) {
            return NONE;
        }
        if (isOutside(v, 0, 9) || isOutside(base, 1, LAST_BASE) || isOutside(purse, 0, 9)) {
            return BAD;
        }
        if (now.coins.isFull()) {
            return FULL;
        }
        int number = now.coins.add();
        now.coins.put(number, KIND, kind);
        now.coins.put(number, V, v);
        now.coins.put(number, BASE, base);
        now.coins.put(number, PURSE, purse);
        return number;
    }

    public int of(int coin, int what) {
        if (!now.coins.has(coin)) {
            return NONE;
        }
        if (what == 4) {
            return now.worth(coin);
        }
        if (what > 10 && what <= 10 + LAST_BASE) {
            return now.worthWith(coin, what - 10);
        }
        return isOutside(what, KIND, PURSE) ? NONE : now.coins.get(coin, what);
    }

    public int row(int coin, int k, int n) {
        if (!now.coins.has(coin) || isOutside(k, 0, ROW_LENGTH - 1)) {
            return NONE;
        }
        if (isOutside(n, 0, 9)) {
            return BAD;
        }
        if (now.coins.get(coin, KIND) != TOLD) {
            return STATE;
        }
        return now.coins.put(coin, ROW + k, n);
    }

    public int set(int coin, int what, int n) {
        if (!now.coins.has(coin) || isOutside(what, 0, 1)) {
            return NONE;
        }
        if (isOutside(n, what == 0 ? 1 : 0, 9)) {
            return BAD;
        }
        return now.coins.put(coin, what == 0 ? BASE : PURSE, n);
    }

    public int ware(int price) {
        if (isOutside(price, 1, 60)) {
            return BAD;
        }
        if (now.wares.isFull()) {
            return FULL;
        }
        int number = now.wares.add();
        now.wares.put(number, 0, price);
        return number;
    }

    public int pass(int n) {
        if (isOutside(n, 0, 60)) {
            return BAD;
        }
        if (now.day + n > LAST_DAY) {
            return STATE;
        }
        now.day += n;
        return now.day;
    }

    public int told(int what) {
        switch (what) {
            case 0:
                return now.day;
            case 1:
                return now.top();
            case 2:
                return now.cheating();
            case 3:
                payer.openPurse();
                return payer.riches();
            default:
                return what >= 10 && now.wares.has(what - 10) ? now.wares.get(what - 10, 0) : NONE;
        }
    }

    // ---- buys; part 0 above, 1 below the line

    public int buy(int price, int a, int b, int c, int d) {
        if (price == -1) {
            now.buys.clear();
            return 0;
        }
        if (isOutside(price, 0, LAST_PRICE) || !isTaken(0, a) || !isTaken(1, b) || !isTaken(2, c) || !isTaken(3, d)) {
            return BAD;
        }
        if (now.buys.isFull()) {
            return FULL;
        }
        int number = now.buys.add();
        now.buys.put(number, 0, price);
        now.buys.put(number, 1, a);
        now.buys.put(number, 2, b);
        now.buys.put(number, 3, c);
        now.buys.put(number, 4, d);
        return now.buys.rows();
    }

    /** Whether a BUY may tell that n of this COIN were taken: of one that there is not, none. */
    private boolean isTaken(int coin, int n) {
        return n == 0 || now.coins.has(coin) && !isOutside(n, -4, 4);
    }

    public int left() {
        guesses.survey();
        return guesses.remaining();
    }

    public int range(int coin, int what) {
        if (!now.coins.has(coin) || isOutside(what, 0, 1)) {
            return NONE;
        }
        guesses.survey();
        return what == 0 ? guesses.lowest(coin) : guesses.highest(coin);
    }

    public int known() {
        guesses.survey();
        int bits = 0;
        for (int coin = 0; coin < now.coins.rows(); coin++) {
            int low = guesses.lowest(coin);
            // By no GUESS at all, nothing is known.
            if (low != NOTHING && low == guesses.highest(coin)) {
                bits |= 1 << coin;
            }
        }
        return bits;
    }

    public long likely(int coin, int w, int part) {
        if (!now.coins.has(coin) || isOutside(w, 1, LAST_BASE) || isOutside(part, 0, 1)) {
            return NO;
        }
        guesses.survey();
        return fraction(guesses.having(coin, w), guesses.remaining(), part);
    }

    public int alike(int one, int other) {
        if (!now.coins.has(one) || !now.coins.has(other)) {
            return NONE;
        }
        if (one == other) {
            return BAD;
        }
        guesses.survey();
        return guesses.areAlike(one, other) ? 1 : 0;
    }

    public int wrong() {
        return guesses.firstWrong();
    }

    public int cheated() {
        return guesses.leastCheat();
    }

    public int hold(int what) {
        if (isOutside(what, 0, 1)) {
            return NONE;
        }
        guesses.survey();
        int pair = guesses.pairToHold();
        if (pair == NOTHING) {
            return NOTHING;
        }
        return what == 0 ? pair : guesses.worstOf(pair / 10, pair % 10);
    }

    // ---- paying

    public int pay(int p, int k) {
        if (isOutside(k, -1, MOST_COINS - 1)) {
            return NONE;
        }
        if (isOutside(p, 0, LAST_PRICE)) {
            return BAD;
        }
        payer.openPurse();
        return ofBest(payer.fewest(p, 0), k);
    }

    /** Of what the payer has just found: how many COINS, or how many of one of them. */
    private int ofBest(int fewest, int k) {
        if (fewest == NOTHING || k == -1) {
            return fewest;
        }
        return now.coins.has(k) ? payer.ofBest(k) : NOTHING;
    }

    public int ways(int p) {
        if (isOutside(p, 0, LAST_PRICE)) {
            return BAD;
        }
        payer.openPurse();
        return payer.howManyWays(p);
    }

    public int change(int p) {
        if (isOutside(p, 0, LAST_PRICE)) {
            return BAD;
        }
        payer.openPurse();
        return payer.fewest(p, MOST_BACK);
    }

    public int never() {
        payer.openPurse();
        return payer.leastUnpayable();
    }

    public int carry(int n, int k) {
        if (isOutside(k, -1, MOST_COINS - 1)) {
            return NONE;
        }
        if (isOutside(n, 1, 30)) {
            return BAD;
        }
        payer.openPurse();
        return ofBest(payer.fewestForUpTo(n), k);
    }

    public long rate(int one, int other, int part) {
        if (!now.coins.has(one) || !now.coins.has(other) || isOutside(part, 0, 1)) {
            return NO;
        }
        return fraction(now.worth(one), now.worth(other), part);
    }

    public int bought(int s, int k) {
        if (isOutside(k, -1, MOST_WARES - 1)) {
            return NONE;
        }
        if (isOutside(s, 0, LAST_PRICE)) {
            return BAD;
        }
        int found = basket.findAll(s);
        if (k == -1) {
            return found;
        }
        return found > 0 && now.wares.has(k) ? basket.ofFirst(k) : NOTHING;
    }

    // ---- slates

    public int slate(int x, int y, int number) {
        if (x == -1) {
            now.slates.clear();
            return 0;
        }
        if (isOutside(x, 0, 19) || isOutside(y, 0, 19) || isOutside(number, 0, 399)) {
            return BAD;
        }
        if (now.slates.isFull()) {
            return FULL;
        }
        int added = now.slates.add();
        now.slates.put(added, 0, x);
        now.slates.put(added, 1, y);
        now.slates.put(added, 2, number);
        return now.slates.rows();
    }

    public int counts(int what) {
        if (isOutside(what, 0, 1)) {
            return NONE;
        }
        int found = 0;
        int least = NOTHING;
        for (int b = LAST_COUNTING; b >= LEAST_COUNTING; b--) {
            if (areSlatesBy(b)) {
                found++;
                least = b;
            }
        }
        return what == 0 ? found : least;
    }

    private boolean areSlatesBy(int b) {
        for (int i = 0; i < now.slates.rows(); i++) {
            int x = now.slates.get(i, 0);
            int y = now.slates.get(i, 1);
            if (x >= b || y >= b || now.slates.get(i, 2) != b * x + y) {
                return false;
            }
        }
        return true;
    }

    // ---- odds, plans, books

    public long odds(int q, int part) {
        if (isOutside(q, 1, 30) || isOutside(part, 0, 1)) {
            return NO;
        }
        int above = 0;
        for (int coin = 0; coin < now.coins.rows(); coin++) {
            if (now.worth(coin) >= q) {
                above += now.coins.get(coin, PURSE);
            }
        }
        return fraction(above, coinsInPurse(), part);
    }

    public long mean(int part) {
        if (isOutside(part, 0, 1)) {
            return NO;
        }
        payer.openPurse();
        return fraction(payer.riches(), coinsInPurse(), part);
    }

    private int coinsInPurse() {
        int all = 0;
        for (int coin = 0; coin < now.coins.rows(); coin++) {
            all += now.coins.get(coin, PURSE);
        }
        return all;
    }

    public int lasting(int coin) {
        if (!now.coins.has(coin)) {
            return NONE;
        }
        int base = now.coins.get(coin, BASE);
        int purse = now.coins.get(coin, PURSE);
        int worth = now.worth(coin);
        for (int days = 0; days <= 99; days++) {
            if (now.worthAs(coin, base, purse, now.day + days) < worth) {
                return days;
            }
        }
        return NOTHING;
    }

    public int plan(int price) {
        if (price == -1) {
            now.plans.clear();
            return 0;
        }
        if (isOutside(price, 0, LAST_PRICE)) {
            return BAD;
        }
        if (now.plans.isFull()) {
            return FULL;
        }
        now.plans.put(now.plans.add(), 0, price);
        return now.plans.rows();
    }

    public int made(int what) {
        if (isOutside(what, 0, 1)) {
            return NONE;
        }
        payer.openPurse();
        int paid = payer.payPlanned();
        return what == 0 ? paid : payer.riches();
    }

    public int book(int coin, int worth) {
        if (coin == -1) {
            now.booked.clear();
            return 0;
        }
        if (!now.coins.has(coin)) {
            return NONE;
        }
        if (isOutside(worth, 1, 99)) {
            return BAD;
        }
        if (now.booked.isFull()) {
            return FULL;
        }
        int added = now.booked.add();
        now.booked.put(added, 0, coin);
        now.booked.put(added, 1, worth);
        return now.booked.rows();
    }

    public int looked() {
        for (int i = 0; i < now.booked.rows(); i++) {
            if (now.worth(now.booked.get(i, 0)) != now.booked.get(i, 1)) {
                return i;
            }
        }
        return NOTHING;
    }

    // ---- acts, the image

    public int act(int coin, int act, int x) {
        acts.forget();
        if (!now.coins.has(coin) || isOutside(act, SHOWS, TELLS)) {
            return 0;
        }
        acts.take(coin, now.coins.get(coin, KIND), now.coins.get(coin, V));
        return acts.perform(act, x);
    }

    public int trace(int i) {
        return acts.traced(i);
    }

    public int as(int coin, int k) {
        if (!now.coins.has(coin) || isOutside(k, COIN, TOLD)) {
            return NONE;
        }
        int kind = now.coins.get(coin, KIND);
        for (int steps = 0; steps < KIND_ABOVE.length; steps++) {
            if (kind == k) {
                return now.coins.get(coin, V);
            }
            kind = kindAbove(kind);
        }
        return OTHER_KIND;
    }

    public int image() {
        kept.takeOver(now);
        isKept = true;
        return now.coins.rows();
    }

    public int undo() {
        if (!isKept) {
            return STATE;
        }
        now.takeOver(kept);
        return now.coins.rows();
    }

    public int count(int what) {
        switch (what) {
            case 0:
                return now.coins.rows();
            case 1:
                return now.wares.rows();
            case 2:
                return now.lands;
            case 3:
                return now.buys.rows();
            case 4:
                return now.slates.rows();
            case 5:
                return now.plans.rows();
            case 6:
                return now.booked.rows();
            case 7:
                return now.tape.rows();
            case 8:
                return acts.howManyRan();
            default:
                return NONE;
        }
    }

    private static boolean isOutside(int n, int least, int most) {
        return n < least || n > most;
    }

    private static int kindAbove(int kind) {
        return kind >= 0 && kind < KIND_ABOVE.length ? KIND_ABOVE[kind] : -1;
    }

    /** A part of a fraction in lowest terms: 0 above, else below the line. */
    private static long fraction(int above, int below, int part) {
        int divisor = commonDivisor(above, below);
        if (below <= 0 || divisor <= 0) {
            return NO;
        }
        return (part == 0 ? above : below) / divisor;
    }

    private static int commonDivisor(int one, int other) {
        int greater = Math.max(one, other);
        int lesser = Math.min(one, other);
        // Behind every two rounds the numbers are less than half, so no two ints need so many.
        for (int i = 0; i < 100 && lesser > 0; i++) {
            int rest = greater % lesser;
            greater = lesser;
            lesser = rest;
        }
        return greater;
    }

    /** Rows of numbers, of one width, up to a limit. What lies outside is 0 and stays so. */
    private static final class Table {
        private final int width;
        private final int limit;
        private final int[] cells;
        private int rows = 0;

        Table(int width, int limit) {
            this.width = Math.max(width, 1);
            this.limit = Math.max(limit, 0);
            cells = new int[this.width * this.limit];
        }

        int rows() {
            return rows;
        }

        boolean has(int row) {
            return row >= 0 && row < rows;
        }

        boolean isFull() {
            return rows >= limit;
        }

        /** Adds a row of zeros, if there is room, and tells its number (-1: there is none). */
        int add() {
            if (rows >= limit) {
                return -1;
            }
            rows++;
            for (int column = 0; column < width; column++) {
                put(rows - 1, column, 0);
            }
            return rows - 1;
        }

        void clear() {
            rows = 0;
        }

        int get(int row, int column) {
            int cell = row * width + column;
            return isInside(row, column) && cell >= 0 && cell < cells.length ? cells[cell] : 0;
        }

        /** Puts a number and tells which one stood there. */
        int put(int row, int column, int n) {
            int cell = row * width + column;
            if (!isInside(row, column) || cell < 0 || cell >= cells.length) {
                return 0;
            }
            int was = cells[cell];
            cells[cell] = n;
            return was;
        }

        /** What the numbers of a row, from a column on, come to, each so often. */
        int sum(int row, int column, int[] times) {
            if (!isInside(row, column)) {
                return 0;
            }
            int sum = 0;
            int cell = row * width + column;
            int length = Math.min(times.length, width - column);
            for (int i = 0; i < length && cell >= 0 && cell < cells.length; i++) {
                sum += cells[cell] * times[i];
                cell++;
            }
            return sum;
        }

        private boolean isInside(int row, int column) {
            return row >= 0 && row < rows && column >= 0 && column < width;
        }

        void takeOver(Table other) {
            System.arraycopy(other.cells, 0, cells, 0, Math.min(cells.length, other.cells.length));
            rows = Math.min(limit, other.rows);
        }
    }

    /** All that THE IMAGE holds, and the WORTHS that follow from it. */
    private static final class World {
        private final Table tape = new Table(1, MOST_SIGNS);
        private final Table coins = new Table(ROW + ROW_LENGTH, MOST_COINS);
        private final Table wares = new Table(1, MOST_WARES);
        private final Table buys = new Table(1 + MOST_COINS, MOST_BUYS);
        private final Table slates = new Table(3, MOST_SLATES);
        private final Table plans = new Table(1, MOST_PLANNED);
        private final Table booked = new Table(2, MOST_BOOKED);
        private int lands = 0;
        /** The one that holds; of those before it only the number matters. */
        private Land land = null;
        private int day = 0;
        /** What TESTS look at: c, k, v, b, d, p. */
        private final int[] facts = new int[6];

        void takeOver(World other) {
            tape.takeOver(other.tape);
            coins.takeOver(other.coins);
            wares.takeOver(other.wares);
            buys.takeOver(other.buys);
            slates.takeOver(other.slates);
            plans.takeOver(other.plans);
            booked.takeOver(other.booked);
            lands = other.lands;
            land = other.land;
            day = other.day;
        }

        int top() {
            int last = land == null ? NOTHING : land.last(TOP);
            return last == NOTHING ? LAST_BASE : Math.max(1, Math.min(LAST_BASE, last));
        }

        int cheating() {
            int last = land == null ? NOTHING : land.last(CHEAT);
            return last == NOTHING ? 0 : last;
        }

        int worth(int coin) {
            return worthWith(coin, coins.get(coin, BASE));
        }

        int worthWith(int coin, int base) {
            return worthAs(coin, base, coins.get(coin, PURSE), day);
        }

        /** WORTH of a COIN, were these its BASE and its PURSE, and this the DAY. */
        int worthAs(int coin, int base, int purse, int onDay) {
            lookAt(coin, base, purse, onDay);
            int plain = Math.max(1, land == null ? base : base + land.dearer(facts));
            int thick = coins.get(coin, V) / 3;
            int wear = onDay / 10;
            switch (coins.get(coin, KIND)) {
                case ROUND:
                    return plain + thick;
                case HOLED:
                    return less(plain, 1);
                case WORN:
                    return less(plain, wear);
                case CLIPPED:
                    return less(plain + thick, 2);
                case FALSE:
                    return onDay >= 5 ? 1 : less(plain, 1);
                case TOLD:
                    return less(plain, wear) + coins.get(coin, ROW + onDay % ROW_LENGTH);
                default:
                    return plain;
            }
        }

        private void lookAt(int coin, int base, int purse, int onDay) {
            facts[0] = coin;
            facts[1] = coins.get(coin, KIND);
            facts[2] = coins.get(coin, V);
            facts[3] = base;
            facts[4] = onDay % 10;
            facts[5] = purse;
        }

        private static int less(int worth, int by) {
            return Math.max(1, worth - by);
        }
    }

    /** The CLAUSES of a text; it stays as it was read, so an image may share it. */
    private static final class Land {
        private final Clause[] clauses = new Clause[MOST_CLAUSES];
        private int size = 0;

        void add(Clause clause) {
            if (clause != null && size >= 0 && size < clauses.length) {
                clauses[size] = clause;
                size++;
            }
        }

        /** The n of the last CLAUSE that begins with this word. */
        int last(int word) {
            int last = NOTHING;
            for (Clause clause : clauses) {
                if (clause != null && clause.word == word) {
                    last = clause.n;
                }
            }
            return last;
        }

        /** By how much all dear CLAUSES that hold are more than all mean ones. */
        int dearer(int[] facts) {
            int dearer = 0;
            for (Clause clause : clauses) {
                if (clause != null && clause.word >= DEAR && clause.holds(facts)) {
                    dearer += clause.word == DEAR ? clause.n : -clause.n;
                }
            }
            return dearer;
        }
    }

    /** One CLAUSE; its code is the signs of its E but &, each TEST packed into one number. */
    private static final class Clause {
        private final int word;
        private final int n;
        private final int[] code;

        Clause(int word, int n, int[] code) {
            this.word = word;
            this.n = n;
            this.code = code;
        }

        static int packed(int what, int comparison, int n) {
            return TEST + (what * 3 + comparison) * 100 + n;
        }

        /** Each bracket that is open has a bit in some, all and turned, the innermost one the lowest bit. */
        boolean holds(int[] facts) {
            int some = 0;
            int all = 1;
            int turned = 0;
            for (int sign : code) {
                if (sign == '(') {
                    some <<= 1;
                    all = all << 1 | 1;
                    turned <<= 1;
                } else if (sign == '!') {
                    turned ^= 1;
                } else if (sign == '|') {
                    some |= all & 1;
                    all |= 1;
                } else {
                    int value = isSo(sign, facts) ? 1 : 0;
                    if (sign == ')') {
                        value = (some | all) & 1;
                        some >>= 1;
                        all >>= 1;
                        turned >>= 1;
                    }
                    all &= -2 | value ^ turned & 1;
                    turned &= -2;
                }
            }
            return ((some | all) & 1) == 1;
        }

        private static boolean isSo(int sign, int[] facts) {
            int test = sign - TEST;
            int what = test / 300;
            if (test < 0 || what >= facts.length) {
                return false;
            }
            int difference = facts[what] - test % 100;
            switch (test / 100 % 3) {
                case 0:
                    return difference < 0;
                case 1:
                    return difference == 0;
                default:
                    return difference > 0;
            }
        }
    }

    /** Reads a LAND from THE TAPE; where it stops is the FAULT. */
    private static final class Reader {
        private final Table tape;
        private final int[] signs = new int[MOST_SIGNS];
        private int size = 0;
        private int at = 0;
        private final int[] code = new int[MOST_SIGNS];
        private int coded = 0;
        private int open = 0;
        /** A bit for each that is open, the latest one the lowest bit: 1 a !, 0 a bracket. */
        private int turns = 0;

        Reader(Table tape) {
            this.tape = tape;
        }

        int place() {
            return at;
        }

        /** The LAND, or null by a FAULT. */
        Land read() {
            unroll();
            Land land = new Land();
            for (int i = 1; i <= MOST_CLAUSES; i++) {
                Clause clause = readClause();
                if (clause == null) {
                    return null;
                }
                land.add(clause);
                if (at >= size) {
                    return land;
                }
                if (i == MOST_CLAUSES || !take(';')) {
                    return null;
                }
            }
            return null;
        }

        private void unroll() {
            at = 0;
            size = Math.min(tape.rows(), signs.length);
            for (int i = 0; i < size; i++) {
                signs[i] = tape.get(i, 0);
            }
        }

        private Clause readClause() {
            int word = readWord();
            if (word == NONE || !take(' ')) {
                return null;
            }
            int n = readNumber();
            if (n == NONE) {
                return null;
            }
            coded = 0;
            if (word >= DEAR && !(take(' ') && readCondition())) {
                return null;
            }
            return new Clause(word, n, Arrays.copyOf(code, Math.max(0, coded)));
        }

        private int readWord() {
            switch (next()) {
                case 't':
                    return takeAll("top") ? TOP : NONE;
                case 'c':
                    return takeAll("cheat") ? CHEAT : NONE;
                case 'd':
                    return takeAll("dear") ? DEAR : NONE;
                case 'm':
                    return takeAll("mean") ? MEAN : NONE;
                default:
                    return NONE;
            }
        }

        private int readNumber() {
            int first = takeDigit();
            if (first <= 0) {
                return first;
            }
            int second = takeDigit();
            return second == NONE ? first : first * 10 + second;
        }

        private int takeDigit() {
            int sign = at >= 0 && at < size && at < signs.length ? signs[at] : -1;
            if (sign < '0' || sign > '9') {
                return NONE;
            }
            at++;
            return sign - '0';
        }

        /** Reads an E; every round takes a TEST at least. */
        private boolean readCondition() {
            open = 0;
            for (int i = 0; i < MOST_SIGNS; i++) {
                if (!takeOpening() || !readTest()) {
                    return false;
                }
                closeTurns();
                takeClosing();
                if (take('|')) {
                    emit('|');
                } else if (!take('&')) {
                    return open == 0;
                }
            }
            return false;
        }

        /** Takes each ! and ( ahead of a TEST; false, if one too many would be open. */
        private boolean takeOpening() {
            for (int i = 0; i <= MOST_OPEN; i++) {
                int sign = next();
                if (sign != '!' && sign != '(') {
                    return true;
                }
                if (open >= MOST_OPEN) {
                    return false;
                }
                take(sign);
                emit(sign);
                turns = turns << 1 | (sign == '!' ? 1 : 0);
                open++;
            }
            return false;
        }

        private void takeClosing() {
            for (int i = 0; i < MOST_OPEN; i++) {
                if (open == 0 || !take(')')) {
                    return;
                }
                emit(')');
                close();
                closeTurns();
            }
        }

        /** An F has ended, and so has each ! that stands straight ahead of it. */
        private void closeTurns() {
            for (int i = 0; i < MOST_OPEN && open > 0 && (turns & 1) == 1; i++) {
                close();
            }
        }

        private void close() {
            turns >>= 1;
            open--;
        }

        private boolean readTest() {
            int what = takeOneOf("ckvbdp");
            if (what == NONE) {
                return false;
            }
            int comparison = takeOneOf("<=>");
            if (comparison == NONE) {
                return false;
            }
            int n = readNumber();
            if (n == NONE) {
                return false;
            }
            emit(Clause.packed(what, comparison, n));
            return true;
        }

        private void emit(int sign) {
            if (coded >= 0 && coded < code.length) {
                code[coded] = sign;
                coded++;
            }
        }

        /** The sign that comes next (-1: THE TAPE ends here). */
        private int next() {
            return at >= 0 && at < size && at < signs.length ? signs[at] : -1;
        }

        private boolean take(int sign) {
            if (next() != sign) {
                return false;
            }
            at++;
            return true;
        }

        private boolean takeAll(String word) {
            for (int i = 0; i < word.length(); i++) {
                if (!take(word.charAt(i))) {
                    return false;
                }
            }
            return true;
        }

        private int takeOneOf(String these) {
            int sign = next();
            int place = sign < 0 ? NONE : these.indexOf((char) sign);
            if (place < 0) {
                return NONE;
            }
            at++;
            return place;
        }
    }

    /** Every row of numbers between bounds, one behind the other, the last number the fastest. */
    private static final class Rows {
        private final int[] low;
        private final int[] high;
        private final int[] at;

        Rows(int width) {
            int length = Math.max(0, width);
            low = new int[length];
            high = new int[length];
            at = new int[length];
        }

        void bound(int place, int least, int most) {
            if (place >= 0 && place < low.length && place < high.length) {
                low[place] = least;
                high[place] = most;
            }
        }

        /** Goes to the first row, and tells how many there are. */
        int start() {
            int all = 1;
            for (int i = 0; i < at.length && i < low.length && i < high.length; i++) {
                at[i] = low[i];
                all *= high[i] - low[i] + 1;
            }
            return all;
        }

        void step() {
            for (int i = at.length - 1; i >= 0; i--) {
                if (i >= low.length || i >= high.length) {
                    return;
                }
                if (at[i] < high[i]) {
                    at[i]++;
                    return;
                }
                at[i] = low[i];
            }
        }

        int get(int place) {
            return place >= 0 && place < at.length ? at[place] : 0;
        }

        /** How many there are in the row, whether they go out or come back. */
        int size() {
            int size = 0;
            for (int n : at) {
                size += Math.abs(n);
            }
            return size;
        }

        /** What the row comes to, each of its numbers so often. */
        int sum(int[] worths) {
            int sum = 0;
            for (int i = 0; i < at.length && i < worths.length; i++) {
                sum += at[i] * worths[i];
            }
            return sum;
        }

        void copyInto(int[] row) {
            System.arraycopy(at, 0, row, 0, Math.min(at.length, row.length));
        }
    }

    /** What the BUYS leave of all GUESSES. */
    private static final class Guesses {
        private static final int BASES = LAST_BASE + 1;
        private final World world;
        private final Rows bases = new Rows(MOST_COINS);
        private final int[] worthBy = new int[MOST_COINS * BASES];
        /** The WORTHS by the GUESS at hand. */
        private final int[] worths = new int[MOST_COINS];
        private int left = 0;
        private final int[] haveBase = new int[MOST_COINS * BASES];
        /** Of each two COINS: in how much of LEFT the first is worth less, the same, more. */
        private final int[] compared = new int[MOST_COINS * MOST_COINS * 3];

        Guesses(World world) {
            this.world = world;
        }

        /** Goes to the first GUESS, and tells how many there are. */
        private int start() {
            int top = world.top();
            for (int coin = 0; coin < MOST_COINS; coin++) {
                boolean isThere = world.coins.has(coin);
                int purse = world.coins.get(coin, PURSE);
                bases.bound(coin, isThere ? 1 : 0, isThere ? top : 0);
                for (int base = 0; base < BASES; base++) {
                    int cell = coin * BASES + base;
                    if (cell < worthBy.length) {
                        worthBy[cell] = isThere && base > 0 ? world.worthAs(coin, base, purse, world.day) : 0;
                    }
                }
            }
            return bases.start();
        }

        private void weigh() {
            for (int coin = 0; coin < worths.length; coin++) {
                int cell = coin * BASES + bases.get(coin);
                worths[coin] = cell >= 0 && cell < worthBy.length ? worthBy[cell] : 0;
            }
        }

        /** By how much what a BUY tells is worth more than its price. */
        private int surplus(int buy) {
            return world.buys.sum(buy, 1, worths) - world.buys.get(buy, 0);
        }

        /** How many BUYS are SO ahead of the first that is not. */
        private int soFar(int cheat) {
            int buys = world.buys.rows();
            for (int buy = 0; buy < buys; buy++) {
                int surplus = surplus(buy);
                if (surplus < 0 || surplus > cheat) {
                    return buy;
                }
            }
            return buys;
        }

        void survey() {
            left = 0;
            Arrays.fill(haveBase, 0);
            Arrays.fill(compared, 0);
            int cheat = world.cheating();
            int buys = world.buys.rows();
            int all = start();
            for (int i = 0; i < all; i++) {
                weigh();
                if (soFar(cheat) == buys) {
                    noteOne();
                }
                bases.step();
            }
        }

        private void noteOne() {
            left++;
            for (int one = 0; one < worths.length; one++) {
                int cell = one * BASES + bases.get(one);
                if (cell >= 0 && cell < haveBase.length) {
                    haveBase[cell]++;
                }
                for (int other = one + 1; other < worths.length; other++) {
                    int outcome = outcome(one, other, Integer.compare(worths[one], worths[other]));
                    if (outcome >= 0 && outcome < compared.length) {
                        compared[outcome]++;
                    }
                }
            }
        }

        private static int outcome(int one, int other, int comparison) {
            return (one * MOST_COINS + other) * 3 + comparison + 1;
        }

        private int outcomes(int one, int other, int comparison) {
            int outcome = outcome(one, other, comparison);
            return outcome >= 0 && outcome < compared.length ? compared[outcome] : 0;
        }

        int remaining() {
            return left;
        }

        int having(int coin, int base) {
            int cell = coin * BASES + base;
            return cell >= 0 && cell < haveBase.length ? haveBase[cell] : 0;
        }

        int lowest(int coin) {
            for (int base = 1; base <= LAST_BASE; base++) {
                if (having(coin, base) > 0) {
                    return base;
                }
            }
            return NOTHING;
        }

        int highest(int coin) {
            for (int base = LAST_BASE; base >= 1; base--) {
                if (having(coin, base) > 0) {
                    return base;
                }
            }
            return NOTHING;
        }

        boolean areAlike(int one, int other) {
            return left > 0 && outcomes(Math.min(one, other), Math.max(one, other), 0) == left;
        }

        /** The two COINS (10 times the lesser, and the greater one) to hold against each other. */
        int pairToHold() {
            int best = NOTHING;
            int least = left;
            int coins = left > 0 ? world.coins.rows() : 0;
            for (int one = 0; one < coins; one++) {
                for (int other = one + 1; other < coins; other++) {
                    int worst = worstOf(one, other);
                    if (best == NOTHING || worst < least) {
                        best = one * 10 + other;
                        least = worst;
                    }
                }
            }
            return best;
        }

        int worstOf(int one, int other) {
            return Math.max(outcomes(one, other, 0), Math.max(outcomes(one, other, -1), outcomes(one, other, 1)));
        }

        int firstWrong() {
            int cheat = world.cheating();
            int most = 0;
            int all = start();
            for (int i = 0; i < all; i++) {
                weigh();
                most = Math.max(most, soFar(cheat));
                bases.step();
            }
            return most == world.buys.rows() ? NOTHING : most;
        }

        int leastCheat() {
            int least = MOST_CHEATED + 1;
            int all = start();
            for (int i = 0; i < all; i++) {
                weigh();
                least = Math.min(least, cheatNeeded());
                bases.step();
            }
            return least > MOST_CHEATED ? NOTHING : least;
        }

        /** The least CHEAT by which all BUYS are SO by the GUESS at hand (more than can be: by none). */
        private int cheatNeeded() {
            int needed = 0;
            for (int buy = 0; buy < world.buys.rows(); buy++) {
                int surplus = surplus(buy);
                if (surplus < 0) {
                    return MOST_CHEATED + 1;
                }
                needed = Math.max(needed, surplus);
            }
            return needed;
        }
    }

    /** Pays out of a purse, row by row of how many of each COIN. */
    private static final class Payer {
        private final World world;
        private final int[] purse = new int[MOST_COINS];
        /** The WORTHS by this purse, as p is what is left in it. */
        private final int[] worths = new int[MOST_COINS];
        private final Rows rows = new Rows(MOST_COINS);
        private final int[] best = new int[MOST_COINS];
        private final boolean[] isPayable = new boolean[LAST_PRICE + 1];

        Payer(World world) {
            this.world = world;
        }

        void openPurse() {
            for (int coin = 0; coin < purse.length; coin++) {
                purse[coin] = world.coins.get(coin, PURSE);
            }
            weigh();
        }

        private void weigh() {
            for (int coin = 0; coin < worths.length && coin < purse.length; coin++) {
                int base = world.coins.get(coin, BASE);
                worths[coin] = world.coins.has(coin) ? world.worthAs(coin, base, purse[coin], world.day) : 0;
            }
        }

        /** Goes to the first row out of the purse, so many of each COIN coming back at most. */
        private int start(int back) {
            for (int coin = 0; coin < purse.length; coin++) {
                rows.bound(coin, world.coins.has(coin) ? -back : 0, purse[coin]);
            }
            return rows.start();
        }

        /** The fewest COINS that go out or come back for just p; the first such row is the best. */
        int fewest(int p, int back) {
            int fewest = NOTHING;
            int all = start(back);
            for (int i = 0; i < all; i++) {
                if (rows.sum(worths) == p && (fewest == NOTHING || rows.size() < fewest)) {
                    fewest = rows.size();
                    rows.copyInto(best);
                }
                rows.step();
            }
            return fewest;
        }

        int ofBest(int coin) {
            return coin >= 0 && coin < best.length ? best[coin] : 0;
        }

        int howManyWays(int p) {
            int ways = 0;
            int all = start(0);
            for (int i = 0; i < all; i++) {
                if (rows.sum(worths) == p) {
                    ways++;
                }
                rows.step();
            }
            return ways;
        }

        int leastUnpayable() {
            for (int p = 0; p < isPayable.length; p++) {
                isPayable[p] = false;
            }
            int all = start(0);
            for (int i = 0; i < all; i++) {
                int sum = rows.sum(worths);
                if (sum >= 0 && sum < isPayable.length) {
                    isPayable[sum] = true;
                }
                rows.step();
            }
            for (int p = 1; p < isPayable.length; p++) {
                if (!isPayable[p]) {
                    return p;
                }
            }
            return NOTHING;
        }

        /** The fewest COINS that pay each of 1 to n; the first such row is the best. */
        int fewestForUpTo(int n) {
            for (int coin = 0; coin < MOST_COINS; coin++) {
                rows.bound(coin, 0, world.coins.has(coin) ? MOST_CARRIED : 0);
            }
            int fewest = NOTHING;
            int all = rows.start();
            for (int i = 0; i < all; i++) {
                if ((fewest == NOTHING || rows.size() < fewest) && paysUpTo(n)) {
                    fewest = rows.size();
                    rows.copyInto(best);
                }
                rows.step();
            }
            return fewest;
        }

        /** Whether the row at hand pays each of 1 to n (30 at most): bit p is set, if p can be paid. */
        private boolean paysUpTo(int n) {
            long wanted = (1L << (n + 1)) - 1;
            long payable = 1;
            for (int coin = 0; coin < worths.length; coin++) {
                // A COIN worth more than n pays none of them, and would shift by too much.
                int useful = worths[coin] <= n ? rows.get(coin) : 0;
                for (int i = 0; i < useful; i++) {
                    payable |= payable << worths[coin] & wanted;
                }
            }
            return payable == wanted;
        }

        /** What all that is left in the purse is worth. */
        int riches() {
            int riches = 0;
            for (int coin = 0; coin < purse.length && coin < worths.length; coin++) {
                riches += purse[coin] * worths[coin];
            }
            return riches;
        }

        /** Pays what is planned, price by price, and tells how many could be paid. */
        int payPlanned() {
            for (int i = 0; i < world.plans.rows(); i++) {
                if (fewest(world.plans.get(i, 0), 0) == NOTHING) {
                    return i;
                }
                for (int coin = 0; coin < purse.length; coin++) {
                    purse[coin] -= ofBest(coin);
                }
                weigh();
            }
            return world.plans.rows();
        }
    }

    /** What can be bought of the WARES for a sum. */
    private static final class Basket {
        private final Table wares;
        private final Rows rows = new Rows(MOST_WARES);
        private final int[] prices = new int[MOST_WARES];
        private final int[] first = new int[MOST_WARES];

        Basket(Table wares) {
            this.wares = wares;
        }

        /** In how many ways a few WARES cost the sum. */
        int findAll(int sum) {
            for (int ware = 0; ware < prices.length; ware++) {
                prices[ware] = wares.get(ware, 0);
                rows.bound(ware, 0, wares.has(ware) ? MOST_WARES_BOUGHT : 0);
            }
            int found = 0;
            int all = rows.start();
            for (int i = 0; i < all; i++) {
                if (rows.size() <= MOST_WARES_BOUGHT && rows.sum(prices) == sum) {
                    found++;
                    // The greater row is the first one told, and comes last here.
                    rows.copyInto(first);
                }
                rows.step();
            }
            return found;
        }

        int ofFirst(int ware) {
            return ware >= 0 && ware < first.length ? first[ware] : 0;
        }
    }

    /** The bodies that run when a COIN acts. */
    private static final class Acts {
        private final int[] trace = new int[MOST_TRACED];
        private int ran = 0;
        private int number = 0;
        private int kind = COIN;
        private int v = 0;

        void forget() {
            ran = 0;
        }

        void take(int aNumber, int aKind, int aV) {
            number = aNumber;
            kind = aKind;
            v = aV;
        }

        int perform(int act, int x) {
            return run(kind, act, x, 0);
        }

        int traced(int i) {
            return i >= 0 && i < ran && i < trace.length ? trace[i] : NONE;
        }

        int howManyRan() {
            return ran;
        }

        /** Runs the body that a KIND, or the next one above that has one, has for an act. */
        private int run(int from, int act, int x, int depth) {
            if (depth > MOST_DEPTH) {
                return 0;
            }
            int body = bodyOf(from, act);
            if (ran >= 0 && ran < trace.length) {
                trace[ran] = body;
            }
            ran++;
            return answer(body, x, depth + 1);
        }

        private int answer(int body, int x, int depth) {
            switch (body) {
                case 1:
                    return x + number;
                case 2:
                    return run(kind, SHOWS, x, depth) - v;
                case 3:
                    return run(kind, PAYS, x, depth) * 2;
                case 11:
                    return run(COIN, SHOWS, x * 3, depth);
                case 21:
                    return -run(COIN, PAYS, x, depth);
                case 31:
                    return run(COIN, TELLS, x, depth) ^ 7;
                case 41:
                    return run(ROUND, TELLS, x - 1, depth) + run(kind, SHOWS, 2, depth);
                case 51:
                    return run(HOLED, SHOWS, x, depth) ^ number;
                case 61:
                    return run(WORN, PAYS, x, depth) + v;
                default:
                    return 0;
            }
        }

        private static int bodyOf(int from, int act) {
            int at = from;
            for (int steps = 0; steps < KIND_ABOVE.length; steps++) {
                int cell = at * 3 + act;
                if (at >= 0 && cell >= 0 && cell < BODIES.length && BODIES[cell] != 0) {
                    return BODIES[cell];
                }
                at = kindAbove(at);
            }
            return 0;
        }
    }
}
