import java.util.List;

/** ==== 3, the REFUSALS. */
final class RefusalSentences extends Sentences {
    /** As much as there may be of all but COINS, of which there are three: COIN, TOLD, ROUND. */
    private static CoinLand full() {
        CoinLand x = of(0, 1, 5, 3, 6, 4, 5, 2, 1, 6, 4, 4);
        for (int i = 0; i < 8; i++) {
            x.ware(9 + i);
            Due.landOf(x, "top 9");
            x.buy(10, 2, 0, 0, 0);
            x.slate(0, i, i);
            x.plan(5);
            x.book(i % 3, 5);
        }
        for (int i = 0; i < 100; i++) {
            x.feed('c');
        }
        return x;
    }

    private static CoinLand fullWithFour() {
        CoinLand x = full();
        x.coin(5, 0, 4, 2);
        return x;
    }

    static void theFirstOne() {
        terms(3, 4, "REFUSALS, of several the first one told:");
        CoinLand x = fullWithFour();
        is("coin: NONE, BAD, FULL", x.coin(7, 10, 0, 10), NONE);
        is("coin: NONE, FULL", x.coin(7, 0, 1, 0), NONE);
        is("coin: BAD, FULL", x.coin(0, 10, 1, 0), BAD);
        is("feed: BAD, FULL", x.feed(128), BAD);
        is("ware: BAD, FULL", x.ware(61), BAD);
        is("row: NONE, BAD", x.row(1, 4, 10), NONE);
        is("row: NONE, BAD, STATE", x.row(0, 4, 10), NONE);
        is("row: NONE, STATE", x.row(0, 4, 0), NONE);
        is("row: BAD, STATE", x.row(0, 0, 10), BAD);
        is("set: NONE, BAD", x.set(4, 0, 10), NONE);
        is("set: NONE, BAD", x.set(0, 2, 10), NONE);
        is("buy: BAD, FULL", x.buy(100, 0, 0, 0, 0), BAD);
        is("buy: BAD, FULL", x.buy(1, 5, 0, 0, 0), BAD);
        is("alike: NONE, BAD", x.alike(4, 4), NONE);
        is("pay: NONE, BAD", x.pay(100, 4), NONE);
        is("carry: NONE, BAD", x.carry(31, 4), NONE);
        is("bought: NONE, BAD", x.bought(100, 5), NONE);
        is("slate: BAD, FULL", x.slate(20, 0, 0), BAD);
        is("plan: BAD, FULL", x.plan(100), BAD);
        is("book: NONE, BAD, FULL", x.book(4, 100), NONE);
        is("book: NONE, FULL", x.book(4, 1), NONE);
        is("book: BAD, FULL", x.book(0, 100), BAD);
        x = new CoinLand();
        passTo(x, 9999);
        is("pass: BAD, STATE", x.pass(61), BAD);
    }

    static void noSuch() {
        terms(3, 5, "NONE there is no such COIN, WARE, KIND, what, part, k, i;");
        CoinLand x = rich();
        for (int no : new int[] {MIN, -2, -1, 3, 4, MAX}) {
            is("of(" + no + ", 0)", x.of(no, 0), NONE);
            is("row(" + no + ", 0, 0)", x.row(no, 0, 0), NONE);
            is("set(" + no + ", 1, 1)", x.set(no, 1, 1), NONE);
            is("range(" + no + ", 0)", x.range(no, 0), NONE);
            is("likely(" + no + ", 1, 0)", x.likely(no, 1, 0), NO);
            is("alike(" + no + ", 0)", x.alike(no, 0), NONE);
            is("alike(0, " + no + ")", x.alike(0, no), NONE);
            is("rate(" + no + ", 0, 0)", x.rate(no, 0, 0), NO);
            is("rate(0, " + no + ", 0)", x.rate(0, no, 0), NO);
            is("lasting(" + no + ")", x.lasting(no), NONE);
            is("as(" + no + ", 0)", x.as(no, 0), NONE);
        }
        for (int no : new int[] {MIN, -1, 4, 9, 12, MAX}) {
            is("told(" + no + "), no WARE, no what", x.told(no), NONE);
        }
        for (int no : new int[] {MIN, -1, 7, MAX}) {
            is("coin, KIND " + no, x.coin(no, 0, 1, 0), NONE);
            is("as(0, " + no + ")", x.as(0, no), NONE);
        }
        for (int no : new int[] {MIN, -1, 2, MAX}) {
            is("set, what " + no, x.set(0, no, 1), NONE);
            is("range, what " + no, x.range(0, no), NONE);
            is("hold, what " + no, x.hold(no), NONE);
            is("counts, what " + no, x.counts(no), NONE);
            is("made, what " + no, x.made(no), NONE);
            is("likely, part " + no, x.likely(0, 1, no), NO);
            is("rate, part " + no, x.rate(0, 1, no), NO);
            is("odds, part " + no, x.odds(1, no), NO);
            is("mean, part " + no, x.mean(no), NO);
        }
        for (int no : new int[] {MIN, -1, 5, 9, 10, 20, MAX}) {
            is("of, what " + no, x.of(0, no), NONE);
            is("trace(" + no + ")", x.trace(no), NONE);
        }
        for (int no : new int[] {MIN, -2, 4, MAX}) {
            is("pay, k " + no, x.pay(1, no), NONE);
            is("carry, k " + no, x.carry(1, no), NONE);
        }
        for (int no : new int[] {MIN, -2, 5, MAX}) {
            is("bought, k " + no, x.bought(1, no), NONE);
        }
        for (int no : new int[] {MIN, -1, 4, MAX}) {
            is("row, k " + no, x.row(1, no, 0), NONE);
        }
        for (int no : new int[] {MIN, -1, 9, MAX}) {
            is("count(" + no + ")", x.count(no), NONE);
        }
        for (int no : new int[] {MIN, -2, 3, MAX}) {
            is("book(" + no + ", 1)", x.book(no, 1), NONE);
        }
    }

    static void numbersNotAsTold() {
        terms(3, 4, "BAD a number is not as told,");
        CoinLand x = rich();
        for (int no : new int[] {MIN, -1, 10, MAX}) {
            is("coin, v " + no, x.coin(0, no, 1, 0), BAD);
            is("coin, purse " + no, x.coin(0, 0, 1, no), BAD);
            is("row, n " + no, x.row(1, 0, no), BAD);
            is("set PURSE, n " + no, x.set(0, 1, no), BAD);
        }
        for (int no : new int[] {MIN, -1, 0, 10, MAX}) {
            is("coin, base " + no, x.coin(0, 0, no, 0), BAD);
            is("set BASE, n " + no, x.set(0, 0, no), BAD);
        }
        for (int no : new int[] {MIN, -1, 128, MAX}) {
            is("feed(" + no + ")", x.feed(no), BAD);
        }
        for (int no : new int[] {MIN, -1, 0, 61, MAX}) {
            is("ware(" + no + ")", x.ware(no), BAD);
        }
        for (int no : new int[] {MIN, -1, 61, MAX}) {
            is("pass(" + no + ")", x.pass(no), BAD);
        }
        for (int no : new int[] {MIN, -2, 100, MAX}) {
            is("buy, price " + no, x.buy(no, 0, 0, 0, 0), BAD);
            is("plan(" + no + ")", x.plan(no), BAD);
        }
        for (int no : new int[] {MIN, -5, 5, MAX}) {
            is("buy, a " + no, x.buy(1, no, 0, 0, 0), BAD);
            is("buy, b " + no, x.buy(1, 0, no, 0, 0), BAD);
            is("buy, c " + no, x.buy(1, 0, 0, no, 0), BAD);
            is("buy, d " + no, x.buy(1, 0, 0, 0, no), BAD);
        }
        for (int no : new int[] {MIN, -1, 100, MAX}) {
            is("pay(" + no + ", 0)", x.pay(no, 0), BAD);
            is("ways(" + no + ")", x.ways(no), BAD);
            is("change(" + no + ")", x.change(no), BAD);
            is("bought(" + no + ", 0)", x.bought(no, 0), BAD);
        }
        for (int no : new int[] {MIN, -1, 0, 31, MAX}) {
            is("carry(" + no + ", 0)", x.carry(no, 0), BAD);
        }
        for (int no : new int[] {MIN, -2, 20, MAX}) {
            is("slate, x " + no, x.slate(no, 0, 0), BAD);
            is("slate, y " + no, x.slate(0, no, 0), BAD);
        }
        for (int no : new int[] {MIN, -1, 400, MAX}) {
            is("slate, number " + no, x.slate(0, 0, no), BAD);
        }
        for (int no : new int[] {MIN, -1, 0, 100, MAX}) {
            is("book, worth " + no, x.book(0, no), BAD);
        }
    }

    static void twoAreOne() {
        terms(3, 16, "or two are one;");
        CoinLand x = rich();
        for (int coin = 0; coin < 3; coin++) {
            for (int other = 0; other < 3; other++) {
                boolean isBad = x.alike(coin, other) == BAD;
                is("alike(" + coin + ", " + other + ") is BAD", isBad ? 1 : 0, coin == other ? 1 : 0);
            }
        }
    }

    static void state() {
        terms(3, 6, "STATE as told;");
        for (int kind = 0; kind <= 6; kind++) {
            is("row of KIND " + kind, of(kind, 0, 1, 0).row(0, 0, 1), kind == 6 ? 0 : STATE);
        }
        CoinLand x = new CoinLand();
        is("undo()", x.undo(), STATE);
        passTo(x, 9950);
        is("pass(50)", x.pass(50), STATE);
        is("pass(49)", x.pass(49), 9999);
        is("pass(1)", x.pass(1), STATE);
    }

    static void fullOfAll() {
        terms(3, 4, "FULL.");
        CoinLand x = fullWithFour();
        is("feed('c')", x.feed('c'), FULL);
        is("land()", x.land(), FULL);
        is("coin(0, 0, 1, 0)", x.coin(0, 0, 1, 0), FULL);
        is("ware(1)", x.ware(1), FULL);
        is("buy(1, 0, 0, 0, 0)", x.buy(1, 0, 0, 0, 0), FULL);
        is("slate(0, 0, 0)", x.slate(0, 0, 0), FULL);
        is("plan(1)", x.plan(1), FULL);
        is("book(0, 1)", x.book(0, 1), FULL);
        int[] counts = {4, 5, 5, 6, 6, 6, 8, 100};
        for (int what = 0; what < counts.length; what++) {
            is("count(" + what + ")", x.count(what), counts[what]);
        }
    }

    static void changeNothing() {
        terms(3, 4, "They change nothing.");
        CoinLand x = full();
        x.act(0, 2, 5);
        List<String> ahead = asked(x);
        refuse(x);
        areSame("behind all that is refused", asked(x), ahead);
        x.coin(5, 0, 4, 2);
        x.coin(0, 0, 9, 9);
        is("count(0) behind a fifth", x.count(0), 4);
        is("of(3, 0) behind a fifth", x.of(3, 0), 5);
        is("undo(), there is no IMAGE", x.undo(), STATE);
        is("undo(), still none", x.undo(), STATE);
        x = Due.fed("top 3");
        x.feed(128);
        x.feed(-1);
        is("land(), of what was fed alone", x.land(), 0);
        is("told(1)", x.told(1), 3);
    }

    /** Calls that are refused, one by one. */
    private static void refuse(CoinLand x) {
        x.feed(128);
        x.feed('x');
        x.land();
        x.coin(7, 0, 1, 0);
        x.coin(0, 10, 1, 0);
        x.coin(0, 0, 0, 0);
        x.coin(0, 0, 1, 10);
        x.row(3, 0, 1);
        x.row(1, 4, 1);
        x.row(1, 0, 10);
        x.row(0, 0, 1);
        x.set(3, 0, 1);
        x.set(0, 2, 1);
        x.set(0, 0, 0);
        x.set(0, 0, 10);
        x.set(0, 1, 10);
        x.ware(61);
        x.ware(60);
        x.pass(61);
        x.pass(-1);
        x.buy(100, 0, 0, 0, 0);
        x.buy(1, 1, 5, 0, 0);
        x.buy(1, 1, 0, 0, 1);
        x.buy(1, 1, 0, 0, 0);
        x.slate(20, 0, 0);
        x.slate(0, 20, 0);
        x.slate(0, 0, 400);
        x.slate(0, 9, 9);
        x.plan(100);
        x.plan(1);
        x.book(3, 1);
        x.book(0, 100);
        x.book(0, 1);
        x.undo();
    }
}
