/** ==== 1, WORTHS and BUYS. */
final class WorthSentences extends Sentences {
    /** WORTH of a COIN on a DAY. */
    private static void worth(int kind, int v, int base, int day, int due) {
        CoinLand x = of(kind, v, base, 1);
        passTo(x, day);
        is("WORTH of KIND " + kind + ", v " + v + ", BASE " + base + " on DAY " + day, x.of(0, 4), due);
    }

    static void dearAndMean() {
        terms(1, 5, "WORTH of a COIN with a BASE: PLAIN: that BASE, the n of all dear whose E holds (b being that), "
            + "less those of all mean, together");
        CoinLand x = by("dear 10 b=7;dear 20 b>8;mean 3 b>3;dear 4 c=1", plain(4, 1));
        int[] worths = {1, 2, 3, 1, 2, 3, 14, 5, 26};
        for (int base = 1; base <= 9; base++) {
            is("of(0, 1" + base + ")", x.of(0, 10 + base), worths[base - 1]);
        }
        is("together, mean first", by("mean 9 c=0;dear 8 c=0", x).of(0, 4), 3);
        is("together, dear first", by("dear 8 c=0;mean 9 c=0", x).of(0, 4), 3);
        is("all dear", by("dear 99 c=0;dear 99 p=1;dear 99 c=1;dear 99 c<4", x).of(0, 4), 301);
        is("all mean", by("dear 99 c=0;mean 40 p=1;mean 9 c=1;mean 40 c<4", x).of(0, 4), 23);
    }

    static void plainIsOneAtLeast() {
        terms(1, 5, "(1 at least).");
        is("BASE 4 less 2", by("mean 2 c=0", plain(4, 1)).of(0, 4), 2);
        is("BASE 4 less 3", by("mean 3 c=0", plain(4, 1)).of(0, 4), 1);
        is("BASE 4 less 4", by("mean 4 c=0", plain(4, 1)).of(0, 4), 1);
        is("BASE 9 less 99", by("mean 99 c=0", plain(9, 1)).of(0, 4), 1);
        is("ROUND, PLAIN is 1", by("mean 99 c=0", of(1, 9, 9, 1)).of(0, 4), 4);
        is("TOLD, PLAIN is 1", by("mean 99 c=0", of(6, 0, 9, 1)).of(0, 4), 1);
    }

    static void coin() {
        terms(1, 5, "COIN: PLAIN.");
        worth(0, 9, 1, 0, 1);
        worth(0, 9, 9, 0, 9);
        worth(0, 9, 9, 99, 9);
    }

    static void round() {
        terms(1, 5, "ROUND: as COIN, and v by 3 (cut) more.");
        int[] more = {0, 0, 0, 1, 1, 1, 2, 2, 2, 3};
        for (int v = 0; v <= 9; v++) {
            worth(1, v, 4, 0, 4 + more[v]);
            worth(1, v, 4, 60, 4 + more[v]);
        }
    }

    static void holed() {
        terms(1, 5, "HOLED: as COIN, less 1.");
        worth(2, 9, 1, 0, 1);
        worth(2, 9, 2, 0, 1);
        worth(2, 9, 3, 0, 2);
        worth(2, 9, 9, 99, 8);
    }

    static void worn() {
        terms(1, 5, "WORN: as COIN, less DAY by 10 (cut).");
        worth(3, 9, 9, 0, 9);
        worth(3, 9, 9, 9, 9);
        worth(3, 9, 9, 10, 8);
        worth(3, 9, 9, 19, 8);
        worth(3, 9, 9, 20, 7);
        worth(3, 9, 9, 79, 2);
        worth(3, 9, 9, 80, 1);
        worth(3, 9, 9, 90, 1);
        worth(3, 9, 9, 9999, 1);
    }

    static void clipped() {
        terms(1, 5, "CLIPPED: as ROUND, less 2.");
        worth(4, 0, 1, 0, 1);
        worth(4, 0, 3, 0, 1);
        worth(4, 0, 4, 0, 2);
        worth(4, 2, 4, 0, 2);
        worth(4, 3, 4, 0, 3);
        worth(4, 9, 1, 0, 2);
        worth(4, 9, 9, 99, 10);
    }

    static void falseOne() {
        terms(1, 5, "FALSE: as HOLED; but 1, if DAY is 5 or more.");
        worth(5, 9, 9, 0, 8);
        worth(5, 9, 9, 4, 8);
        worth(5, 9, 9, 5, 1);
        worth(5, 9, 9, 6, 1);
        worth(5, 9, 9, 10, 1);
        worth(5, 9, 9, 100, 1);
        worth(5, 9, 1, 4, 1);
        CoinLand x = by("dear 99 c=0", of(5, 0, 9, 1));
        is("by dear 99 on DAY 0", x.of(0, 4), 107);
        x.pass(5);
        is("by dear 99 on DAY 5", x.of(0, 4), 1);
    }

    static void told() {
        terms(1, 5, "TOLD: as WORN, and its ROW at DAY modulo 4 more.");
        CoinLand x = of(6, 9, 3, 1);
        x.row(0, 0, 1);
        x.row(0, 1, 2);
        x.row(0, 2, 4);
        x.row(0, 3, 8);
        int[] worths = {4, 5, 7, 11, 4, 5, 7, 11, 4, 5, 6, 10, 3, 4};
        for (int day = 0; day < worths.length; day++) {
            is("of(0, 4) on DAY " + day, x.of(0, 4), worths[day]);
            x.pass(1);
        }
        passTo(x, 9999);
        is("of(0, 4) on DAY 9999", x.of(0, 4), 9);
    }

    static void oneAtLeast() {
        terms(1, 5, "Each of these is 1 at least, in itself.");
        worth(2, 0, 1, 0, 1);
        worth(3, 0, 1, 60, 1);
        worth(4, 0, 1, 0, 1);
        worth(4, 0, 2, 0, 1);
        worth(5, 0, 1, 0, 1);
        worth(6, 0, 1, 60, 1);
        CoinLand x = of(6, 0, 1, 1);
        x.row(0, 0, 4);
        x.pass(60);
        is("WORN is 1 ahead of the ROW", x.of(0, 4), 5);
    }

    static void byItsBase() {
        terms(1, 5, "WORTH alone: by its BASE.");
        CoinLand x = by("dear 10 b=7", of(1, 6, 7, 1));
        is("of(0, 4)", x.of(0, 4), 19);
        is("of(0, 17)", x.of(0, 17), 19);
        x.set(0, 0, 6);
        is("of(0, 4) with BASE 6", x.of(0, 4), 8);
    }

    static void buyPrices() {
        terms(1, 11, "BUYS told by hand: a price (0 .. 99),");
        CoinLand x = plain(1, 1);
        is("price -2", x.buy(-2, 0, 0, 0, 0), BAD);
        is("price 100", x.buy(100, 0, 0, 0, 0), BAD);
        is("price 0", x.buy(0, 0, 0, 0, 0), 1);
        is("left(), 0 is so", x.left(), 9);
        is("price 99", x.buy(99, 0, 0, 0, 0), 2);
        is("left(), 99 is not", x.left(), 0);
    }

    static void takenAndGiven() {
        terms(1, 11, "and for each COIN how many of it were taken, less how many were given back (-4 .. 4;");
        CoinLand x = plain(1, 1, 1, 1, 1, 1, 1, 1);
        int[] four = {4, -4, 4, -4};
        is("4, -4, 4, -4", x.buy(0, four[0], four[1], four[2], four[3]), 1);
        is("-4, 4, -4, 4", x.buy(0, -4, 4, -4, 4), 2);
        for (int place = 0; place < 4; place++) {
            for (int n : new int[] {-5, 5, MIN, MAX}) {
                int[] taken = {0, 0, 0, 0};
                taken[place] = n;
                is("buy of " + n + " at " + place, x.buy(0, taken[0], taken[1], taken[2], taken[3]), BAD);
            }
        }
        x.buy(-1, 0, 0, 0, 0);
        is("four of 0, four of 1 back", x.buy(32, 4, -4, 0, 0), 1);
        is("LOW of 0", x.range(0, 0), 9);
        is("HIGH of 1", x.range(1, 1), 1);
        is("four of 2, four of 3 back", x.buy(28, 0, 0, 4, -4), 2);
        is("left()", x.left(), 2);
        is("HIGH of 3", x.range(3, 1), 2);
    }

    static void notThere() {
        terms(1, 11, "0 for one that there is not);");
        for (int coins = 0; coins <= 4; coins++) {
            CoinLand x = new CoinLand();
            for (int coin = 0; coin < coins; coin++) {
                x.coin(0, 0, 1, 1);
            }
            for (int place = 0; place < 4; place++) {
                for (int n = -1; n <= 1; n += 2) {
                    int[] taken = {0, 0, 0, 0};
                    taken[place] = n;
                    is("buy of " + n + " at " + place + " of " + coins + " COINS",
                        x.buy(1, taken[0], taken[1], taken[2], taken[3]), place >= coins ? BAD : 1);
                    x.buy(-1, 0, 0, 0, 0);
                }
            }
            is("buy of none of " + coins + " COINS", x.buy(1, 0, 0, 0, 0), 1);
        }
    }

    static void sixBuys() {
        terms(1, 11, "6 at most.");
        CoinLand x = plain(1, 1);
        for (int i = 1; i <= 6; i++) {
            is("buy " + i, x.buy(i == 6 ? 9 : 0, i == 6 ? 1 : 0, 0, 0, 0), i);
        }
        is("a seventh", x.buy(99, 0, 0, 0, 0), FULL);
        is("count(3)", x.count(3), 6);
        is("left() by the sixth alone", x.left(), 1);
    }

    static void guesses() {
        terms(1, 12, "A GUESS tells a BASE of 1 .. TOP for each COIN.");
        for (int top = 1; top <= 9; top++) {
            CoinLand x = by("top " + top, new CoinLand());
            int due = 1;
            for (int coins = 0; coins <= 4; coins++) {
                is("left() of " + coins + " COINS with TOP " + top, x.left(), due);
                x.coin(0, 0, 9, 1);
                due *= top;
            }
            is("LOW with TOP " + top, x.range(3, 0), 1);
            is("HIGH with TOP " + top, x.range(3, 1), top);
        }
    }

    static void priceOrMore() {
        terms(1, 12, "A BUY is SO by a GUESS, if the WORTHS (by these BASES, as they are today) of what it tells, "
            + "each so often, together, are its price or more,");
        CoinLand x = by("cheat 99", of(3, 0, 1, 1, 0, 0, 1, 1));
        x.buy(5, 1, 0, 0, 0);
        is("LOW, one for 5", x.range(0, 0), 5);
        is("HIGH, one for 5", x.range(0, 1), 9);
        x.pass(10);
        is("LOW, one for 5, worn by 1", x.range(0, 0), 6);
        x.buy(-1, 0, 0, 0, 0);
        x.buy(36, 4, 0, 0, 0);
        is("left(), four for 36, worn by 1", x.left(), 0);
        x.buy(-1, 0, 0, 0, 0);
        x.buy(32, 4, 0, 0, 0);
        is("LOW, four for 32, worn by 1", x.range(0, 0), 9);
        x.buy(-1, 0, 0, 0, 0);
        x.buy(7, 2, -1, 0, 0);
        // Twice 1 .. 8 (of BASE 1 by two), less 1 .. 9, 7 or more: of 4 1, of 5 3, of 6 5, of 7 7, of 8 9.
        is("left(), two less one for 7", x.left(), 25);
    }

    static void noMoreThanCheat() {
        terms(1, 12, "by no more than CHEAT.");
        CoinLand x = plain(1, 1);
        x.buy(5, 1, 0, 0, 0);
        for (int cheat = 0; cheat <= 4; cheat++) {
            by("cheat " + cheat, x);
            is("left() with CHEAT " + cheat, x.left(), 1 + cheat);
            is("HIGH with CHEAT " + cheat, x.range(0, 1), 5 + cheat);
        }
    }
}
