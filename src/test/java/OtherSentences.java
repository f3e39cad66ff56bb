/** ==== 2, SLATES, ODDS, MEAN, LASTING, PLAN, BOOK. */
final class OtherSentences extends Sentences {
    private static CoinLand slates(int... told) {
        CoinLand x = new CoinLand();
        for (int i = 0; i + 2 < told.length; i += 3) {
            x.slate(told[i], told[i + 1], told[i + 2]);
        }
        return x;
    }

    private static void counted(CoinLand x, int howMany, int least) {
        is("counts(0)", x.counts(0), howMany);
        is("counts(1)", x.counts(1), least);
    }

    private static void odds(CoinLand x, int q, int above, int below) {
        is("odds(" + q + ", 0)", x.odds(q, 0), above);
        is("odds(" + q + ", 1)", x.odds(q, 1), below);
    }

    static void slateNumbers() {
        terms(2, 27, "SLATES told by hand: two signs x, y (0 .. 19 each) and a number (0 .. 399);");
        CoinLand x = new CoinLand();
        int[][] bads = {{-2, 0, 0}, {20, 0, 0}, {0, -1, 0}, {0, 20, 0}, {0, 0, -1}, {0, 0, 400}};
        for (int[] bad : bads) {
            is("slate(" + bad[0] + ", " + bad[1] + ", " + bad[2] + ")", x.slate(bad[0], bad[1], bad[2]), BAD);
        }
        is("slate(0, 0, 0)", x.slate(0, 0, 0), 1);
        is("slate(19, 0, 0)", x.slate(19, 0, 0), 2);
        is("slate(0, 19, 0)", x.slate(0, 19, 0), 3);
        is("slate(0, 0, 399)", x.slate(0, 0, 399), 4);
    }

    static void sixSlates() {
        terms(2, 27, "6 at most.");
        CoinLand x = new CoinLand();
        for (int i = 1; i <= 6; i++) {
            is("slate " + i, x.slate(0, i, i), i);
        }
        is("a seventh", x.slate(0, 9, 9), FULL);
        is("count(4)", x.count(4), 6);
        is("counts(1) by the sixth", x.counts(1), 7);
    }

    static void counts() {
        terms(2, 28, "COUNTS: how many b (2 .. 20) there are by which each sign is less than b, "
            + "and each number is b times x, and y;");
        counted(new CoinLand(), 19, 2);
        counted(slates(0, 0, 0), 19, 2);
        counted(slates(0, 1, 1), 19, 2);
        counted(slates(0, 2, 2), 18, 3);
        counted(slates(0, 19, 19), 1, 20);
        counted(slates(1, 0, 2), 1, 2);
        counted(slates(1, 0, 20), 1, 20);
        counted(slates(1, 0, 1), 0, -5);
        counted(slates(1, 0, 21), 0, -5);
        counted(slates(19, 19, 399), 1, 20);
        counted(slates(18, 18, 360), 1, 19);
        // By 8: 8 is no sign; by 5: 5 is none.
        counted(slates(8, 0, 64), 0, -5);
        counted(slates(1, 5, 10), 0, -5);
        counted(slates(7, 0, 56), 1, 8);
        counted(slates(1, 3, 15, 2, 0, 24), 1, 12);
        counted(slates(1, 3, 15, 2, 0, 26), 0, -5);
        counted(slates(0, 7, 7, 0, 11, 11), 9, 12);
    }

    static void leastCounting() {
        terms(2, 28, "the least (-5: none).");
        is("counts(1) of no SLATES", new CoinLand().counts(1), 2);
        is("counts(1), more than 7", slates(0, 7, 7).counts(1), 8);
        is("counts(1) of none", slates(0, 7, 8).counts(1), -5);
        is("counts(1) of two that differ", slates(1, 0, 5, 1, 0, 6).counts(1), -5);
    }

    static void oddsOfQ() {
        terms(2, 29, "ODDS of q (1 .. 30): if one out of PURSE is drawn, each alike likely: how likely its WORTH is q or more: "
            + "a fraction in lowest terms");
        CoinLand x = of(0, 0, 5, 4, 0, 0, 8, 2, 1, 9, 6, 0);
        is("odds(0, 0)", x.odds(0, 0), NO);
        is("odds(31, 0)", x.odds(31, 0), NO);
        odds(x, 1, 1, 1);
        odds(x, 5, 1, 1);
        odds(x, 6, 1, 3);
        odds(x, 8, 1, 3);
        odds(x, 9, 0, 1);
        odds(x, 30, 0, 1);
        by("dear 25 c=0;dear 21 c=1", x);
        odds(x, 30, 2, 3);
        odds(x, 29, 1, 1);
        x.set(2, 1, 9);
        odds(x, 30, 4, 15);
        odds(x, 10, 2, 5);
    }

    static void emptyPurse() {
        terms(2, 29, "(NO: PURSE is empty).");
        is("odds(1, 0) of nothing", new CoinLand().odds(1, 0), NO);
        CoinLand x = plain(5, 0, 6, 0);
        is("odds(1, 0) of an empty PURSE", x.odds(1, 0), NO);
        is("odds(30, 1) of an empty PURSE", x.odds(30, 1), NO);
        x.set(1, 1, 1);
        odds(x, 1, 1, 1);
        odds(x, 30, 0, 1);
    }

    static void mean() {
        terms(2, 30, "MEAN: WORTH of one so drawn in the mean: a fraction in lowest terms");
        CoinLand x = plain(5, 4);
        is("mean(0), 20 by 4", x.mean(0), 5);
        is("mean(1), 20 by 4", x.mean(1), 1);
        x.coin(0, 0, 2, 4);
        is("mean(0), 28 by 8", x.mean(0), 7);
        is("mean(1), 28 by 8", x.mean(1), 2);
        x.coin(0, 0, 9, 0);
        is("mean(0), none of 9", x.mean(0), 7);
        x.set(2, 1, 9);
        is("mean(0), 109 by 17", x.mean(0), 109);
        is("mean(1), 109 by 17", x.mean(1), 17);
    }

    static void noMean() {
        terms(2, 30, "(NO).");
        is("mean(0) of nothing", new CoinLand().mean(0), NO);
        is("mean(1) of nothing", new CoinLand().mean(1), NO);
        is("mean(0) of an empty PURSE", plain(5, 0).mean(0), NO);
        is("mean(1) of an empty PURSE", plain(5, 0).mean(1), NO);
    }

    static void lasting() {
        terms(2, 31, "LASTING of a COIN: behind how many DAYS (0 .. 99) more its WORTH is less than it is now");
        CoinLand x = of(3, 0, 9, 0, 5, 0, 9, 0, 6, 0, 9, 0);
        is("WORN", x.lasting(0), 10);
        is("FALSE", x.lasting(1), 5);
        is("TOLD", x.lasting(2), 10);
        x.row(2, 0, 9);
        is("TOLD, a ROW of 9", x.lasting(2), 1);
        x.row(2, 1, 9);
        x.row(2, 2, 9);
        is("TOLD, three of 9", x.lasting(2), 3);
        x.pass(4);
        is("WORN on DAY 4", x.lasting(0), 6);
        is("FALSE on DAY 4", x.lasting(1), 1);
        x.pass(5);
        is("WORN on DAY 9", x.lasting(0), 1);
        // Dearer than on DAY 0 on each DAY but those of 9, until it is worn by 9.
        x = by("dear 50 d>0&d<9;dear 16 d=9", of(6, 0, 1, 0));
        x.row(0, 0, 9);
        x.row(0, 1, 9);
        x.row(0, 2, 9);
        is("behind 99 DAYS", x.lasting(0), 99);
        x = of(6, 0, 9, 0);
        x.row(0, 3, 9);
        passTo(x, 9999);
        is("behind the DAY 9999", x.lasting(0), 1);
    }

    static void notByThen() {
        terms(2, 31, "(-5: not by then).");
        CoinLand x = of(0, 0, 5, 0, 1, 9, 5, 0, 3, 0, 1, 0, 5, 0, 2, 0);
        for (int coin = 0; coin < 4; coin++) {
            is("lasting(" + coin + ")", x.lasting(coin), -5);
        }
        x = by("dear 50 d>0&d<9;dear 18 d=9", of(6, 0, 1, 0));
        x.row(0, 0, 9);
        x.row(0, 1, 9);
        x.row(0, 2, 9);
        is("less by none of 99 DAYS", x.lasting(0), -5);
    }

    static void planPrices() {
        terms(2, 32, "PLAN told by hand: prices (0 .. 99);");
        CoinLand x = plain(1, 9, 9, 9, 9, 9);
        is("plan(-2)", x.plan(-2), BAD);
        is("plan(100)", x.plan(100), BAD);
        is("plan(0)", x.plan(0), 1);
        is("plan(99)", x.plan(99), 2);
        is("made(0)", x.made(0), 2);
        is("made(1)", x.made(1), 171 - 99);
    }

    static void sixPlanned() {
        terms(2, 32, "6 at most,");
        CoinLand x = plain(1, 9);
        for (int i = 1; i <= 6; i++) {
            is("plan " + i, x.plan(i == 6 ? 2 : 1), i);
        }
        is("a seventh", x.plan(1), FULL);
        is("count(5)", x.count(5), 6);
        is("made(0)", x.made(0), 6);
        is("made(1)", x.made(1), 2);
    }

    static void paidOneBehindTheOther() {
        terms(2, 33, "each PAID one behind the other, as PAY tells it, out of what is left in PURSE "
            + "(WORTHS, p, by what is left, too): MADE: how many until one can not be;");
        CoinLand x = plain(5, 1, 4, 2, 1, 3);
        x.plan(8);
        x.plan(5);
        x.plan(3);
        x.plan(1);
        x.plan(0);
        // 4 4, then 5, then 1 1 1; nothing is left for 1, and 0 is not paid behind it.
        is("made(0)", x.made(0), 3);
        x = plain(5, 1, 4, 2, 1, 3);
        x.plan(5);
        x.plan(5);
        // 5, then 4 1.
        is("made(0), not the same 5 again", x.made(0), 2);
        is("made(1)", x.made(1), 6);
        x = plain(5, 1, 2, 2, 3, 3);
        x.plan(9);
        x.plan(5);
        x.plan(4);
        // 3 3 3 is ahead of 5 2 2 as a row, and leaves these.
        is("made(0), as PAY tells it", x.made(0), 3);
        x = by("dear 3 p=2", plain(2, 3));
        x.plan(2);
        x.plan(5);
        x.plan(2);
        x.plan(2);
        is("made(0), p by what is left", x.made(0), 3);
        x = plain(9, 9, 1, 0);
        x.plan(0);
        is("made(0), 0", x.made(0), 1);
        x.plan(8);
        x.plan(9);
        is("change(8), 9 out, 1 back", x.change(8), 2);
        is("made(0), without CHANGE", x.made(0), 1);
        is("made(0) of nothing planned", plain(9, 9).made(0), 0);
    }

    static void richThen() {
        terms(2, 33, "RICH then.");
        CoinLand x = plain(5, 1, 4, 2, 1, 3);
        is("made(1) of nothing planned", x.made(1), 16);
        x.plan(8);
        is("made(1)", x.made(1), 8);
        x.plan(9);
        is("made(1), 9 can not be", x.made(1), 8);
        x.plan(1);
        is("made(1), 1 is behind it", x.made(1), 8);
        is("told(3), the PURSE stays", x.told(3), 16);
        x = by("dear 3 p=2", plain(2, 3));
        x.plan(2);
        is("made(1), WORTHS by what is left", x.made(1), 10);
    }

    static void bookNumbers() {
        terms(2, 34, "BOOK told by hand: COINS and WORTHS (1 .. 99);");
        CoinLand x = plain(5, 1, 5, 1);
        is("book(0, 0)", x.book(0, 0), BAD);
        is("book(0, 100)", x.book(0, 100), BAD);
        is("book(2, 5)", x.book(2, 5), NONE);
        by("dear 94 c=1;mean 4 c=0", x);
        is("book(0, 1)", x.book(0, 1), 1);
        is("book(1, 99)", x.book(1, 99), 2);
        is("looked()", x.looked(), -5);
    }

    static void eightBooked() {
        terms(2, 34, "8 at most.");
        CoinLand x = plain(5, 1);
        for (int i = 1; i <= 8; i++) {
            is("book " + i, x.book(0, i == 8 ? 6 : 5), i);
        }
        is("a ninth", x.book(0, 5), FULL);
        is("count(6)", x.count(6), 8);
        is("looked()", x.looked(), 7);
    }

    static void firstNotSo() {
        terms(2, 35, "LOOKED at: the first that is not so");
        CoinLand x = plain(5, 1, 6, 1);
        x.book(0, 6);
        x.book(1, 5);
        is("looked(), the first", x.looked(), 0);
        x.book(-1, 0);
        x.book(0, 5);
        x.book(1, 5);
        x.book(0, 4);
        is("looked(), the second", x.looked(), 1);
        x.set(1, 0, 5);
        is("looked(), the third", x.looked(), 2);
        x.book(-1, 0);
        x.book(1, 6);
        is("looked(), more than it is", x.looked(), 0);
    }

    static void allAreSo() {
        terms(2, 35, "(-5: none).");
        CoinLand x = plain(5, 1, 6, 1);
        is("looked() of nothing", x.looked(), -5);
        for (int i = 0; i < 8; i++) {
            x.book(i % 2, 5 + i % 2);
        }
        is("looked() of eight that are so", x.looked(), -5);
    }
}
