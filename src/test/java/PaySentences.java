/** ==== 2, the second part: PAY, WAYS, CHANGE, NEVER, CARRY, RATE, RICH, BOUGHT. */
final class PaySentences extends Sentences {
    private static void paid(CoinLand x, int p, int... answers) {
        for (int k = -1; k + 1 < answers.length; k++) {
            is("pay(" + p + ", " + k + ")", x.pay(p, k), answers[k + 1]);
        }
    }

    private static void carried(CoinLand x, int n, int... answers) {
        for (int k = -1; k + 1 < answers.length; k++) {
            is("carry(" + n + ", " + k + ")", x.carry(n, k), answers[k + 1]);
        }
    }

    private static void boughtBy(CoinLand x, int s, int... answers) {
        for (int k = -1; k + 1 < answers.length; k++) {
            is("bought(" + s + ", " + k + ")", x.bought(s, k), answers[k + 1]);
        }
    }

    private static CoinLand wares(int... prices) {
        CoinLand x = new CoinLand();
        for (int price : prices) {
            x.ware(price);
        }
        return x;
    }

    static void fewestForP() {
        terms(2, 20, "PAY of p (0 .. 99): the fewest COINS out of PURSE whose WORTHS, together, are just p");
        CoinLand x = plain(9, 9, 1, 9, 9, 2);
        is("pay(-1, -1)", x.pay(-1, -1), BAD);
        is("pay(100, -1)", x.pay(100, -1), BAD);
        paid(x, 0, 0, 0, 0, 0);
        paid(x, 1, 1, 0, 1, 0);
        paid(x, 99, 11, 9, 0, 2);
        paid(x, 98, 18, 8, 8, 2);
        x.set(2, 1, 1);
        paid(x, 99, 19, 9, 9, 1);
        x.set(1, 1, 8);
        is("pay(99, -1), 98 at most", x.pay(99, -1), -5);
        x = plain(5, 2, 4, 9, 1, 9);
        // 4 4 ahead of 5 1 1 1.
        paid(x, 8, 2, 0, 2, 0);
        // 5 5 ahead of 4 4 1 1.
        paid(x, 10, 2, 2, 0, 0);
        // 5 5 5 out of two is not there: 5 5 4 1.
        paid(x, 15, 4, 2, 1, 1);
        x = by("dear 5 p=2", of(1, 6, 2, 2));
        paid(x, 9, 1, 1);
        paid(x, 18, 2, 2);
        is("pay(2, -1), by WORTH and not by BASE", x.pay(2, -1), -5);
    }

    static void firstRowPaid() {
        terms(2, 20, "(of several rows of how many of each COIN the first as a row;");
        // 3 3 3 and 5 2 2; 0 0 3 is ahead of 1 2 0.
        paid(plain(5, 4, 2, 9, 3, 9), 9, 3, 0, 0, 3);
        // 4 and 4; 0 1 is ahead of 1 0.
        paid(plain(4, 1, 4, 1), 4, 1, 0, 1);
        paid(plain(4, 2, 4, 1, 4, 1), 8, 2, 0, 1, 1);
        paid(plain(4, 1, 4, 1, 4, 1, 4, 1), 4, 1, 0, 0, 0, 1);
        paid(plain(4, 9, 4, 2, 4, 2, 4, 2), 28, 7, 1, 2, 2, 2);
    }

    static void notPaid() {
        terms(2, 20, "-5: it can not be):");
        CoinLand x = plain(2, 9, 6, 1);
        paid(x, 1, -5, -5, -5);
        paid(x, 25, -5, -5, -5);
        paid(x, 24, 10, 9, 1);
        paid(new CoinLand(), 1, -5, -5);
        paid(plain(7, 0), 7, -5, -5);
    }

    static void howManyPaid() {
        terms(2, 20, "how many; how many of COIN k.");
        CoinLand x = plain(1, 1, 2, 2, 5, 3, 9, 4);
        paid(x, 56, 10, 1, 2, 3, 4);
        paid(x, 55, 9, 0, 2, 3, 4);
        paid(x, 0, 0, 0, 0, 0, 0);
    }

    static void waysOfP() {
        terms(2, 21, "WAYS of p (0 .. 99): in how many ways (how many of each COIN out of PURSE).");
        CoinLand x = plain(9, 9, 9, 9, 1, 9);
        is("ways(-1)", x.ways(-1), BAD);
        is("ways(100)", x.ways(100), BAD);
        is("ways(0)", x.ways(0), 1);
        is("ways(8)", x.ways(8), 1);
        is("ways(9)", x.ways(9), 3);
        // Eleven 9, or ten and nine 1.
        is("ways(99)", x.ways(99), 8 + 9);
        x = plain(5, 2, 4, 9, 1, 0);
        is("ways(8), no 1 in PURSE", x.ways(8), 1);
        is("ways(20), 5 5 5 5 is not in PURSE", x.ways(20), 1);
        is("ways(3)", x.ways(3), 0);
        is("ways(0) of nothing", new CoinLand().ways(0), 1);
        is("ways(1) of nothing", new CoinLand().ways(1), 0);
    }

    static void changeOfP() {
        terms(2, 22, "CHANGE of p (0 .. 99): likewise PAY,");
        CoinLand x = plain(9, 9, 9, 2, 1, 9);
        is("change(-1)", x.change(-1), BAD);
        is("change(100)", x.change(100), BAD);
        is("change(0)", x.change(0), 0);
        is("change(1)", x.change(1), 1);
        is("change(99)", x.change(99), 11);
        x = plain(9, 9, 9, 2);
        is("change(98), not just p", x.change(98), -5);
        x = by("dear 5 p=2", plain(2, 2));
        is("change(7), by WORTH", x.change(7), 1);
        is("change(21), out of PURSE", x.change(21), -5);
    }

    static void threeBack() {
        terms(2, 22, "but up to 3 of each COIN may come back:");
        for (int coin = 0; coin < 4; coin++) {
            // This COIN comes back, of which there is none in PURSE.
            CoinLand x = new CoinLand();
            for (int i = 0; i < 4; i++) {
                x.coin(0, 0, i == coin ? 2 : 9, i == coin ? 0 : i == (coin + 1) % 4 ? 1 : 0);
            }
            is("change(3), three of COIN " + coin + " back", x.change(3), 4);
            is("change(1), not four of COIN " + coin, x.change(1), -5);
        }
        CoinLand x = by("dear 90 c=0", plain(9, 1, 2, 9));
        is("change(93), three of a full PURSE back", x.change(93), 4);
        is("change(91), not four of a full PURSE", x.change(91), -5);
        x = by("dear 90 c=0", plain(9, 1, 1, 0, 2, 0, 8, 0));
        // 99 less 3, less 6, less 24.
        is("change(66), three of each back", x.change(66), 10);
        is("change(67), two of 1", x.change(67), 9);
        is("change(65), four of 1", x.change(65), -5);
        x = plain(5, 1, 2, 0);
        is("change(5), none must come back", x.change(5), 1);
    }

    static void fewestOutAndBack() {
        terms(2, 22, "the fewest COINS that go out or come back, together");
        CoinLand x = plain(9, 9, 4, 9);
        is("change(5), 9 out, 4 back", x.change(5), 2);
        is("change(1), 9 out, 4 4 back", x.change(1), 3);
        is("change(14), 9 9 out, 4 back", x.change(14), 3);
        is("change(3), 4 4 4 out, 9 back", x.change(3), 4);
        is("change(7), 4 4 4 4 out, 9 back", x.change(7), 5);
        // 9 9 out and 4 4 4 4 back are six, but 4 comes back three times at most.
        is("change(2), 4 4 4 4 4 out, 9 9 back", x.change(2), 7);
        x.coin(0, 0, 1, 9);
        is("change(3), 4 out, 1 back", x.change(3), 2);
        is("change(2), 1 1 out", x.change(2), 2);
    }

    static void notBoth() {
        terms(2, 22, "(no COIN both;");
        CoinLand x = plain(7, 2, 5, 0);
        is("change(7)", x.change(7), 1);
        is("change(14)", x.change(14), 2);
        // 7 7 7 out and 7 back would be 14 of three; 7 7 7 7 out of two is not there.
        is("change(28)", x.change(28), -5);
        is("change(21)", x.change(21), -5);
        is("change(4)", x.change(4), 4);
        is("change(0)", x.change(0), 0);
    }

    static void noChange() {
        terms(2, 22, "-5).");
        CoinLand x = plain(6, 9, 3, 9);
        is("change(1)", x.change(1), -5);
        is("change(82)", x.change(82), -5);
        is("change(81)", x.change(81), 18);
        is("change(1) of nothing", new CoinLand().change(1), -5);
        is("change(0) of nothing", new CoinLand().change(0), 0);
    }

    static void leastNever() {
        terms(2, 23, "NEVER: the least p (1 .. 99) that can not be PAID so without CHANGE");
        is("never() of nothing", new CoinLand().never(), 1);
        is("never() of 2 3", plain(2, 9, 3, 9).never(), 1);
        is("never() of 1", plain(1, 1).never(), 2);
        is("never() of 1 2 6", plain(1, 1, 2, 1, 6, 1).never(), 4);
        is("never() of nine 1", plain(1, 9).never(), 10);
        is("never() of nine 1, eight 9", plain(1, 9, 9, 8).never(), 82);
        is("never() of 98", plain(1, 8, 9, 9, 9, 1).never(), 99);
        is("never() of 1 .. 9 and 11 and on", by("dear 10 c=1", plain(1, 9, 1, 9)).never(), 10);
        CoinLand x = plain(1, 9, 9, 9);
        is("never() of nine 1, nine 9", x.never(), 91);
        x.set(0, 1, 3);
        is("never() of three 1 in the same PURSE", x.never(), 4);
        is("change(1) of 2 3, where never() is 1", plain(2, 9, 3, 9).change(1), 2);
    }

    static void eachCanBePaid() {
        terms(2, 23, "(-5: each can).");
        is("never() of 99", plain(1, 9, 9, 9, 9, 1).never(), -5);
        is("never() of 100", plain(1, 9, 9, 9, 9, 1, 1, 1).never(), -5);
    }

    static void fewestToCarry() {
        terms(2, 24, "CARRY of n (1 .. 30): the fewest COINS");
        CoinLand x = plain(1, 9, 5, 9);
        is("carry(0, -1)", x.carry(0, -1), BAD);
        is("carry(31, -1)", x.carry(31, -1), BAD);
        carried(x, 1, 1, 1, 0);
        carried(x, 5, 5, 4, 1);
        carried(x, 9, 5, 4, 1);
        carried(x, 10, 6, 4, 2);
        carried(x, 29, 9, 4, 5);
        carried(x, 30, 10, 4, 6);
        x = by("dear 4 p=9", plain(1, 0, 1, 9));
        carried(x, 9, 5, 4, 1);
    }

    static void sixOfEach() {
        terms(2, 24, "(6 of each at most)");
        carried(plain(1, 9), 6, 6, 6);
        carried(plain(1, 9), 7, -5, -5);
        carried(plain(1, 0), 6, 6, 6);
        carried(plain(1, 0, 1, 0), 12, 12, 6, 6);
        carried(plain(1, 0, 1, 0), 13, -5, -5, -5);
        carried(plain(1, 0, 1, 0, 1, 0, 1, 0), 24, 24, 6, 6, 6, 6);
        carried(plain(1, 0, 1, 0, 1, 0, 1, 0), 25, -5, -5, -5, -5, -5);
        carried(by("dear 1 c=1", plain(1, 0, 1, 0)), 16, 10, 4, 6);
        carried(by("dear 1 c=1", plain(1, 0, 1, 0)), 18, 12, 6, 6);
        carried(by("dear 1 c=1", plain(1, 0, 1, 0)), 19, -5, -5, -5);
    }

    static void eachUpToN() {
        terms(2, 24, "with which each of 1 .. n can be paid without CHANGE");
        carried(plain(2, 9, 3, 9), 1, -5, -5, -5);
        carried(plain(1, 9, 4, 9), 3, 3, 3, 0);
        carried(plain(1, 9, 4, 9), 4, 4, 3, 1);
        carried(plain(1, 9, 4, 9), 7, 4, 3, 1);
        carried(plain(1, 9, 4, 9), 8, 5, 3, 2);
        // 1 2 4 are each of 1 .. 7.
        carried(plain(1, 0, 2, 0, 4, 0), 7, 3, 1, 1, 1);
        carried(plain(1, 0, 2, 0, 4, 0, 8, 0), 15, 4, 1, 1, 1, 1);
        carried(plain(1, 0, 2, 0, 4, 0, 8, 0), 30, 6, 1, 1, 1, 3);
        carried(by("dear 98 c=1", plain(1, 0, 1, 0)), 6, 6, 6, 0);
        carried(by("dear 98 c=1", plain(1, 0, 1, 0)), 7, -5, -5, -5);
    }

    static void firstRowCarried() {
        terms(2, 24, "(of several rows the first;");
        // 1 1 2 and 1 2 2 and 1 2 3: as rows of 3 2 1 the first is 0 1 2.
        carried(plain(3, 1, 2, 1, 1, 1), 4, 3, 0, 1, 2);
        carried(plain(1, 0, 1, 0, 1, 0, 1, 0), 1, 1, 0, 0, 0, 1);
        carried(plain(1, 0, 1, 0, 1, 0, 1, 0), 7, 7, 0, 0, 1, 6);
    }

    static void notCarried() {
        terms(2, 24, "-5: by none):");
        carried(new CoinLand(), 1, -5, -5);
        carried(plain(2, 9), 1, -5, -5);
        carried(plain(2, 9), 30, -5, -5);
        carried(plain(1, 9), 6, 6, 6);
        carried(plain(1, 9), 7, -5, -5);
    }

    static void howManyCarried() {
        terms(2, 24, "how many; how many of COIN k.");
        carried(plain(1, 0, 2, 0, 4, 0, 8, 0), 30, 6, 1, 1, 1, 3);
        carried(plain(8, 0, 4, 0, 2, 0, 1, 0), 30, 6, 3, 1, 1, 1);
    }

    static void rate() {
        terms(2, 25, "RATE of one COIN in another one: WORTH of the first by that of the second: a fraction in lowest terms.");
        CoinLand x = of(1, 6, 4, 0, 0, 0, 9, 0, 0, 0, 7, 0);
        int[] worths = {6, 9, 7};
        int[][] above = {{1, 2, 6}, {3, 1, 9}, {7, 7, 1}};
        for (int one = 0; one < 3; one++) {
            for (int other = 0; other < 3; other++) {
                is("rate(" + one + ", " + other + ", 0), of " + worths[one] + " by " + worths[other],
                    x.rate(one, other, 0), above[one][other]);
                is("rate(" + one + ", " + other + ", 1)", x.rate(one, other, 1), above[other][one]);
            }
        }
        by("dear 91 c=1;dear 44 c=0", x);
        is("rate(1, 0, 0), 100 by 50", x.rate(1, 0, 0), 2);
        is("rate(1, 0, 1), 100 by 50", x.rate(1, 0, 1), 1);
    }

    static void riches() {
        terms(2, 10, "RICH: WORTHS of all in PURSE, together.");
        is("told(3) of nothing", new CoinLand().told(3), 0);
        is("told(3) of none in PURSE", plain(9, 0).told(3), 0);
        CoinLand x = of(1, 6, 4, 3, 2, 0, 9, 9, 0, 0, 7, 1, 0, 0, 1, 0);
        is("told(3)", x.told(3), 18 + 72 + 7);
        by("dear 99 c<9", x);
        is("told(3), 99 dearer", x.told(3), 97 + 13 * 99);
    }

    static void fourWares() {
        terms(2, 26, "BOUGHT of s (0 .. 99): in how many ways four WARES at most (one may be there again) cost s, together");
        CoinLand x = wares(5, 33);
        is("bought(-1, -1)", x.bought(-1, -1), BAD);
        is("bought(100, -1)", x.bought(100, -1), BAD);
        boughtBy(x, 5, 1, 1, 0);
        boughtBy(x, 10, 1, 2, 0);
        boughtBy(x, 20, 1, 4, 0);
        boughtBy(x, 25, 0, -5, -5);
        boughtBy(x, 99, 1, 0, 3);
        boughtBy(x, 38, 1, 1, 1);
        boughtBy(x, 48, 1, 3, 1);
        boughtBy(x, 53, 0, -5, -5);
        is("bought(20, -1), of seven", wares(5, 10, 15, 10).bought(20, -1), 7);
        is("bought(4, -1), of five alike", wares(1, 1, 1, 1, 1).bought(4, -1), 70);
        is("bought(5, -1), of five alike", wares(1, 1, 1, 1, 1).bought(5, -1), 0);
    }

    static void withoutOrder() {
        terms(2, 26, "(their order not looked at;");
        is("bought(15, -1), 5 10", wares(5, 10).bought(15, -1), 2);
        is("bought(7, -1), 3 4", wares(3, 4).bought(7, -1), 1);
        is("bought(10, -1), 1 2 3 4", wares(1, 2, 3, 4).bought(10, -1), 7);
    }

    static void noneForNought() {
        terms(2, 26, "none for 0);");
        boughtBy(wares(5, 10), 0, 1, 0, 0, -5);
        boughtBy(new CoinLand(), 0, 1, -5);
    }

    static void greaterFirst() {
        terms(2, 26, "the first of these as a row of how many there are of WARE 0, then of WARE 1, and so on, the greater first:");
        // 10, or 5 5, or 5' 5, or 5' 5'.
        boughtBy(wares(5, 10, 5), 10, 4, 2, 0, 0);
        boughtBy(wares(10, 5, 5), 10, 4, 1, 0, 0);
        boughtBy(wares(7, 5, 10, 5), 10, 4, 0, 2, 0, 0);
        boughtBy(wares(15, 5, 10, 10), 35, 10, 2, 1, 0, 0);
        boughtBy(wares(1, 1, 1, 1, 1), 3, 35, 3, 0, 0, 0, 0);
    }

    static void ofWare() {
        terms(2, 26, "how many of WARE k.");
        boughtBy(wares(2, 3, 5, 7, 60), 17, 4, 1, 1, 1, 1, 0);
        boughtBy(wares(2, 3, 5, 7, 60), 69, 3, 2, 0, 1, 0, 1);
    }
}
