import java.util.List;

/** ==== 2, the first part: GUESSES, WRONG, CHEATED, HOLD. */
final class GuessSentences extends Sentences {
    /** Four COINS; of all but these two the BASE is known, as 9, 1. */
    private static CoinLand allKnownBut(int one, int other) {
        CoinLand x = plain(1, 1, 1, 1, 1, 1, 1, 1);
        int base = 9;
        for (int coin = 0; coin < 4; coin++) {
            if (coin != one && coin != other) {
                x.buy(base, coin == 0 ? 1 : 0, coin == 1 ? 1 : 0, coin == 2 ? 1 : 0, coin == 3 ? 1 : 0);
                base = 1;
            }
        }
        return x;
    }

    static void changesNothing() {
        terms(2, 12, "All that follows is asked, as things are now, and changes nothing.");
        CoinLand x = rich();
        List<String> ahead = asked(x);
        areSame("asked again", asked(x), ahead);
    }

    static void leftByAll() {
        terms(2, 12, "LEFT: how many GUESSES there are by which all BUYS are SO.");
        CoinLand x = plain(1, 1, 1, 1);
        is("left() of no BUYS", x.left(), 81);
        x.buy(6, 1, 1, 0, 0);
        is("left() of one", x.left(), 5);
        x.buy(4, 1, -1, 0, 0);
        is("left() of two", x.left(), 1);
        x.buy(9, 1, 0, 0, 0);
        is("left() of three", x.left(), 0);
        x.buy(-1, 0, 0, 0, 0);
        is("left() of none any more", x.left(), 81);
    }

    static void leastAndGreatest() {
        terms(2, 13, "LOW, HIGH of a COIN: the least, the greatest BASE in these");
        CoinLand x = plain(1, 1, 1, 1, 1, 1);
        x.buy(14, 1, 1, 0, 0);
        is("LOW", x.range(0, 0), 5);
        is("HIGH", x.range(0, 1), 9);
        is("LOW of 2", x.range(2, 0), 1);
        is("HIGH of 2", x.range(2, 1), 9);
        by("top 7", x);
        is("LOW with TOP 7", x.range(1, 0), 7);
        is("HIGH with TOP 7", x.range(1, 1), 7);
        is("HIGH of 2 with TOP 7", x.range(2, 1), 7);
    }

    static void noneForLow() {
        terms(2, 13, "(-5: there are none).");
        CoinLand x = plain(1, 1, 1, 1);
        x.buy(19, 1, 1, 0, 0);
        for (int coin = 0; coin < 2; coin++) {
            is("LOW of " + coin, x.range(coin, 0), -5);
            is("HIGH of " + coin, x.range(coin, 1), -5);
        }
    }

    static void knownBits() {
        terms(2, 14, "KNOWN: those COINS, as bits, whose LOW is HIGH.");
        for (int coin = 0; coin < 4; coin++) {
            CoinLand x = plain(1, 1, 1, 1, 1, 1, 1, 1);
            is("known() of no BUYS", x.known(), 0);
            x.buy(9, coin == 0 ? 1 : 0, coin == 1 ? 1 : 0, coin == 2 ? 1 : 0, coin == 3 ? 1 : 0);
            is("known(), " + coin + " alone", x.known(), 1 << coin);
        }
        CoinLand x = by("top 1", plain(1, 1, 1, 1, 1, 1, 1, 1));
        is("known() with TOP 1", x.known(), 15);
        is("known() of no COINS", new CoinLand().known(), 0);
        x.buy(2, 1, 0, 0, 0);
        // There is neither a LOW nor a HIGH then.
        is("known() if none is LEFT", x.known(), 0);
    }

    static void likelyOne() {
        terms(2, 15, "LIKELY of a COIN and a BASE w (1 .. 9): in how many of LEFT it has that, by LEFT: "
            + "a fraction in lowest terms");
        CoinLand x = plain(1, 1, 1, 1);
        x.buy(6, 1, 1, 0, 0);
        is("likely(0, 0, 0)", x.likely(0, 0, 0), NO);
        is("likely(0, 10, 0)", x.likely(0, 10, 0), NO);
        for (int w = 1; w <= 9; w++) {
            is("likely(0, " + w + ", 0), of 5", x.likely(0, w, 0), w <= 5 ? 1 : 0);
            is("likely(0, " + w + ", 1), of 5", x.likely(0, w, 1), w <= 5 ? 5 : 1);
        }
        by("cheat 3", x);
        // 6 .. 9 together: 5 and 6 and 7 and 8, of 26.
        is("likely(0, 1, 0), 4 of 26", x.likely(0, 1, 0), 2);
        is("likely(0, 1, 1), 4 of 26", x.likely(0, 1, 1), 13);
        x.buy(8, 0, 1, 0, 0);
        // 1 8 alone: 1 9 is 10.
        is("likely(1, 8, 0)", x.likely(1, 8, 0), 1);
        is("likely(1, 8, 1)", x.likely(1, 8, 1), 1);
        is("likely(1, 9, 0)", x.likely(1, 9, 0), 0);
        is("likely(1, 9, 1)", x.likely(1, 9, 1), 1);
        x = by("top 4", plain(9, 1));
        is("likely(0, 9, 0) above TOP", x.likely(0, 9, 0), 0);
        is("likely(0, 4, 1)", x.likely(0, 4, 1), 4);
    }

    static void noneIsLikely() {
        terms(2, 15, "(NO: none is LEFT).");
        CoinLand x = plain(1, 1);
        x.buy(10, 1, 0, 0, 0);
        for (int w = 1; w <= 9; w++) {
            is("likely(0, " + w + ", 0)", x.likely(0, w, 0), NO);
            is("likely(0, " + w + ", 1)", x.likely(0, w, 1), NO);
        }
    }

    static void areAlike() {
        terms(2, 16, "ALIKE of two COINS: 1, if both are of one WORTH in all of LEFT,");
        CoinLand x = plain(1, 1, 1, 1, 1, 1);
        x.buy(0, 1, -1, 0, 0);
        is("alike(0, 1)", x.alike(0, 1), 1);
        is("alike(1, 0)", x.alike(1, 0), 1);
        x.buy(4, 1, 0, 0, 0);
        is("alike(0, 1) of one that is LEFT", x.alike(0, 1), 1);
        x = of(0, 0, 1, 1, 2, 0, 1, 1);
        x.buy(7, 1, 0, 0, 0);
        x.buy(7, 0, 1, 0, 0);
        is("by WORTH, not by BASE: LOW", x.range(1, 0), 8);
        is("by WORTH, not by BASE", x.alike(0, 1), 1);
    }

    static void areNotAlike() {
        terms(2, 16, "0 else");
        CoinLand x = plain(1, 1, 1, 1);
        is("alike(0, 1) of all", x.alike(0, 1), 0);
        x.buy(17, 1, 1, 0, 0);
        is("alike(0, 1), never", x.alike(0, 1), 0);
        x.buy(-1, 0, 0, 0, 0);
        x.buy(0, 1, -1, 0, 0);
        by("cheat 1", x);
        is("alike(0, 1) in nine of seventeen", x.alike(0, 1), 0);
        x = of(0, 0, 1, 1, 2, 0, 1, 1);
        x.buy(7, 1, 0, 0, 0);
        x.buy(6, 0, 1, 0, 0);
        is("of one BASE, not of one WORTH", x.alike(0, 1), 0);
    }

    static void noneIsAlike() {
        terms(2, 16, "(also if none is LEFT).");
        CoinLand x = plain(1, 1, 1, 1);
        x.buy(0, 1, -1, 0, 0);
        is("alike(0, 1)", x.alike(0, 1), 1);
        x.buy(10, 1, 0, 0, 0);
        is("alike(0, 1), none is LEFT", x.alike(0, 1), 0);
    }

    static void firstWrong() {
        terms(2, 17, "WRONG: the first BUY by which, with those ahead of it, no GUESS is LEFT");
        CoinLand x = plain(1, 1, 1, 1);
        x.buy(10, 1, 0, 0, 0);
        is("the first", x.wrong(), 0);
        x.buy(10, 0, 1, 0, 0);
        is("the first, the second too", x.wrong(), 0);
        x.buy(-1, 0, 0, 0, 0);
        for (int i = 0; i < 5; i++) {
            x.buy(4, 1, 0, 0, 0);
        }
        x.buy(5, 1, 0, 0, 0);
        is("the sixth, with those ahead of it", x.wrong(), 5);
        x.buy(-1, 0, 0, 0, 0);
        x.buy(9, 1, 1, 0, 0);
        x.buy(8, 1, 0, 0, 0);
        x.buy(2, 0, 1, 0, 0);
        x.buy(99, 1, 0, 0, 0);
        is("the third, with both ahead of it", x.wrong(), 2);
        by("cheat 1", x);
        is("the fourth with CHEAT 1", x.wrong(), 3);
    }

    static void noneIsWrong() {
        terms(2, 17, "(-5: none).");
        CoinLand x = plain(1, 1);
        is("wrong() of no BUYS", x.wrong(), -5);
        for (int i = 0; i < 6; i++) {
            x.buy(9, 1, 0, 0, 0);
        }
        is("wrong() of six that are SO", x.wrong(), -5);
        is("wrong() of nothing", new CoinLand().wrong(), -5);
    }

    static void leastCheat() {
        terms(2, 18, "CHEATED: the least number (0 .. 60) by which, were CHEAT that, some GUESS is LEFT");
        CoinLand x = plain(1, 1, 1, 1);
        is("cheated() of no BUYS", x.cheated(), 0);
        x.buy(5, 1, 0, 0, 0);
        x.buy(3, 0, 1, 0, 0);
        is("cheated() by 0", x.cheated(), 0);
        x.buy(11, 1, 1, 0, 0);
        // 5 and 6, or 6 and 5, or 7 and 4, or 8 and 3: by 2 at least in one of them.
        is("cheated() by 2", x.cheated(), 2);
        by("cheat 99", x);
        is("cheated() with CHEAT 99", x.cheated(), 2);
        x = by("dear 59 c=0", plain(1, 1));
        for (int price = 1; price >= 0; price--) {
            x.buy(-1, 0, 0, 0, 0);
            x.buy(price, 1, 0, 0, 0);
            is("cheated() of 60 or more for " + price, x.cheated(), 60 - price);
        }
        by("dear 60 c=0", x);
        is("cheated() of 61 or more for 0", x.cheated(), -5);
        for (int price = 1; price <= 9; price++) {
            x = plain(1, 1, 1, 1);
            x.buy(price, 1, 0, 0, 0);
            x.buy(price, 0, 1, 0, 0);
            is("cheated() by the one GUESS that is LEFT, of " + price, x.cheated(), 0);
        }
    }

    static void byNoCheat() {
        terms(2, 18, "(-5: by none).");
        CoinLand x = by("dear 60 c=0", plain(1, 1));
        x.buy(1, 1, 0, 0, 0);
        is("cheated() by 60", x.cheated(), 60);
        x.buy(0, 1, 0, 0, 0);
        is("cheated() by 61", x.cheated(), -5);
        x = plain(1, 1);
        x.buy(10, 1, 0, 0, 0);
        is("cheated(), too dear", x.cheated(), -5);
        x = new CoinLand();
        x.buy(1, 0, 0, 0, 0);
        is("cheated() of no COINS", x.cheated(), -5);
    }

    static void theTwo() {
        terms(2, 19, "HOLD: the two COINS (10 times the lesser and the greater number) by which, were it told of which "
            + "the WORTH is more, or that they are alike, no more of LEFT could be left in the worst case than by any others");
        for (int one = 0; one < 4; one++) {
            for (int other = one + 1; other < 4; other++) {
                is("hold(0), " + one + " and " + other, allKnownBut(one, other).hold(0), 10 * one + other);
            }
        }
        CoinLand x = plain(1, 1, 1, 1, 1, 1);
        x.buy(0, 1, -1, 0, 0);
        // 0 and 1 are alike in all 81; 0 and 2 in 9 alone.
        is("hold(0), that they are alike is the worst case", x.hold(0), 2);
        is("hold(1), 36 of 81", x.hold(1), 36);
        x.buy(-1, 0, 0, 0, 0);
        x.buy(2, 1, 0, 0, 0);
        x.buy(3, 0, 1, 0, 0);
        // 0 is less than 1; 2 is more than 0 by 7, than 1 by 6.
        is("hold(0), the least of 9, 7, 6", x.hold(0), 12);
        is("hold(1), the least of 9, 7, 6", x.hold(1), 6);
    }

    static void firstOfSeveral() {
        terms(2, 19, "(of several the first;");
        CoinLand x = plain(1, 1, 1, 1, 1, 1, 1, 1);
        is("hold(0) of six alike", x.hold(0), 1);
        x.buy(9, 1, 0, 0, 0);
        is("hold(0) of 1 2, 1 3, 2 3", x.hold(0), 12);
        x.buy(9, 0, 1, 0, 0);
        is("hold(0), 2 3 alone", x.hold(0), 23);
    }

    static void fewerThanTwo() {
        terms(2, 19, "-5: there are fewer than two,");
        CoinLand x = new CoinLand();
        is("hold(0) of none", x.hold(0), -5);
        is("hold(1) of none", x.hold(1), -5);
        x.coin(0, 0, 1, 1);
        is("hold(0) of one", x.hold(0), -5);
        is("hold(1) of one", x.hold(1), -5);
        x.coin(0, 0, 1, 1);
        is("hold(0) of two", x.hold(0), 1);
        is("hold(1) of two", x.hold(1), 36);
    }

    static void noneToHold() {
        terms(2, 19, "or none is LEFT);");
        CoinLand x = plain(1, 1, 1, 1);
        x.buy(10, 1, 0, 0, 0);
        is("hold(0)", x.hold(0), -5);
        is("hold(1)", x.hold(1), -5);
    }

    static void howManyThen() {
        terms(2, 19, "how many then.");
        CoinLand x = plain(1, 1, 1, 1);
        is("hold(1), either is more", x.hold(1), 36);
        x.buy(0, 1, -1, 0, 0);
        is("hold(1), alike in all", x.hold(1), 9);
        by("cheat 9", x);
        is("hold(1), 0 is more or alike", x.hold(1), 36);
        by("cheat 1", x);
        is("hold(1), alike in nine of seventeen", x.hold(1), 9);
        x.buy(17, 1, 1, 0, 0);
        is("hold(1), 9 8 and 9 9", x.hold(1), 1);
        x = plain(1, 1, 1, 1, 1, 1, 1, 1);
        is("hold(1) of four", x.hold(1), 36 * 81);
    }
}
