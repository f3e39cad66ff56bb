/** Promises 11 to 19: buys, and what is left of the guesses. */
public final class BuysTest {
    private static final Due due = new Due("BuysTest");

    public static void main(String[] args) {
        buying();
        left();
        noCoins();
        ranges();
        likely();
        alike();
        wrong();
        cheated();
        holding();
        wornBuys();
        due.end(11, 19);
    }

    private static CoinLand with(int... kindsAndBases) {
        CoinLand x = new CoinLand();
        for (int i = 0; i + 1 < kindsAndBases.length; i += 2) {
            x.coin(kindsAndBases[i], 0, kindsAndBases[i + 1], 1);
        }
        return x;
    }

    private static void buying() {
        due.promise(11);
        CoinLand x = with(0, 1, 0, 1);
        int[][] bads = {
            {-2, 0, 0, 0, 0}, {100, 0, 0, 0, 0}, {Integer.MIN_VALUE, 0, 0, 0, 0}, {0, 5, 0, 0, 0}, {0, -5, 0, 0, 0},
            {0, 0, 5, 0, 0}, {0, 0, -5, 0, 0}, {0, 0, 0, 1, 0}, {0, 0, 0, -1, 0}, {0, 0, 0, 0, 1}, {0, 0, 0, 0, -4},
            {0, Integer.MIN_VALUE, 0, 0, 0}
        };
        for (int round = 0; round < 2; round++) {
            for (int[] b : bads) {
                due.is("buy, BAD", x.buy(b[0], b[1], b[2], b[3], b[4]), CoinLand.BAD);
            }
            for (int i = 1; round == 0 && i <= 6; i++) {
                due.is("buy", x.buy(i == 1 ? 0 : 99, i == 2 ? 4 : 0, i == 3 ? -4 : 0, 0, 0), i);
            }
        }
        due.is("buy, full", x.buy(0, 0, 0, 0, 0), CoinLand.FULL);
        due.is("count(3)", x.count(3), 6);
        due.is("none then", x.buy(-1, 99, -99, 99, 99), 0);
        due.is("count(3)", x.count(3), 0);
        due.is("anew", x.buy(5, 1, 0, 0, 0), 1);
        x = with(0, 1);
        due.is("of one alone", x.buy(1, 1, 0, 0, 0), 1);
        due.is("b, not there", x.buy(1, 0, 1, 0, 0), CoinLand.BAD);
        x = with(0, 1, 0, 1, 0, 1);
        due.is("of three", x.buy(1, 1, 1, -1, 0), 1);
        due.is("d, not there", x.buy(1, 1, 1, -1, 1), CoinLand.BAD);
        x = with(0, 1, 0, 1, 0, 1, 0, 1);
        due.is("of all four", x.buy(8, 4, -4, 4, -4), 1);
        due.is("c", x.buy(8, 0, 0, 5, 0), CoinLand.BAD);
        due.is("d", x.buy(8, 0, 0, 0, -5), CoinLand.BAD);
    }

    private static void left() {
        due.promise(12);
        CoinLand x = with(0, 1, 0, 1);
        due.is("left, no BUYS", x.left(), 81);
        x.buy(6, 1, 1, 0, 0);
        due.is("left of 6", x.left(), 5);
        Due.landOf(x, "cheat 1");
        due.is("left of 6 or 7", x.left(), 11);
        Due.landOf(x, "cheat 1;top 3");
        due.is("left of 6, TOP 3", x.left(), 1);
        x.buy(1, 1, -1, 0, 0);
        due.is("left, none", x.left(), 0);
        Due.landOf(x, "top 5;cheat 0");
        due.is("left, TOP 5", x.left(), 0);
        Due.landOf(x, "cheat 1");
        due.is("left of 4 and 3, 4 and 2", x.left(), 2);
        x = with(2, 1, 4, 1);
        due.is("all BASES", x.left(), 81);
        x.buy(3, 1, 0, 0, 0);
        due.is("HOLED is worth 3", x.left(), 9);
        x.buy(1, 0, 1, 0, 0);
        due.is("CLIPPED is worth 1 by three BASES", x.left(), 3);
        x = with(0, 1, 0, 1, 0, 1, 0, 1);
        due.is("all of four", x.left(), 6561);
        x.buy(36, 1, 1, 1, 1);
        due.is("all are 9", x.left(), 1);
        due.is("known", x.known(), 15);
    }

    private static void noCoins() {
        due.promise(12);
        CoinLand x = new CoinLand();
        due.is("left", x.left(), 1);
        x.buy(0, 0, 0, 0, 0);
        due.is("left, SO", x.left(), 1);
        x.buy(3, 0, 0, 0, 0);
        due.is("left, not SO", x.left(), 0);
        due.promise(14);
        due.is("known", x.known(), 0);
        due.promise(17);
        due.is("wrong", x.wrong(), 1);
        due.promise(18);
        due.is("cheated", x.cheated(), -5);
        due.promise(19);
        due.is("hold(0)", x.hold(0), -5);
        due.is("hold(1)", x.hold(1), -5);
    }

    private static void ranges() {
        CoinLand x = with(0, 1, 0, 1, 0, 1);
        x.buy(6, 1, 1, 0, 0);
        x.buy(1, -1, 1, 0, 0);
        x.buy(5, 2, 0, 0, 0);
        due.promise(13);
        due.is("range(0, 0), none", x.range(0, 0), -5);
        due.is("range(2, 1), none", x.range(2, 1), -5);
        due.promise(14);
        due.is("known, none", x.known(), 0);
        x.buy(-1, 0, 0, 0, 0);
        x.buy(12, 1, 1, 0, 0);
        x.buy(2, 1, -1, 0, 0);
        due.promise(13);
        due.is("range(0, 0)", x.range(0, 0), 7);
        due.is("range(0, 1)", x.range(0, 1), 7);
        due.is("range(1, 0)", x.range(1, 0), 5);
        due.is("range(2, 0)", x.range(2, 0), 1);
        due.is("range(2, 1)", x.range(2, 1), 9);
        due.is("range(-1, 0)", x.range(-1, 0), CoinLand.NONE);
        due.is("range(3, 0)", x.range(3, 0), CoinLand.NONE);
        due.is("range(0, -1)", x.range(0, -1), CoinLand.NONE);
        due.is("range(0, 2)", x.range(0, 2), CoinLand.NONE);
        due.is("range(MAX, 0)", x.range(Integer.MAX_VALUE, 0), CoinLand.NONE);
        due.promise(14);
        due.is("known", x.known(), 3);
        Due.landOf(x, "cheat 2");
        due.promise(13);
        due.is("range(0, 0) with CHEAT 2", x.range(0, 0), 7);
        due.is("range(0, 1) with CHEAT 2", x.range(0, 1), 9);
        due.is("range(1, 0) with CHEAT 2", x.range(1, 0), 4);
        due.is("range(1, 1) with CHEAT 2", x.range(1, 1), 6);
        due.promise(14);
        due.is("known with CHEAT 2", x.known(), 0);
        Due.landOf(x, "top 1");
        x.buy(-1, 0, 0, 0, 0);
        due.is("known with TOP 1", x.known(), 7);
    }

    private static void likely() {
        due.promise(15);
        CoinLand x = with(0, 1, 0, 1);
        x.buy(6, 1, 1, 0, 0);
        Due.landOf(x, "cheat 1");
        due.is("likely(0, 1, 0)", x.likely(0, 1, 0), 2);
        due.is("likely(0, 1, 1)", x.likely(0, 1, 1), 11);
        due.is("likely(0, 6, 0)", x.likely(0, 6, 0), 1);
        due.is("likely(0, 7, 0)", x.likely(0, 7, 0), 0);
        due.is("likely(0, 7, 1)", x.likely(0, 7, 1), 1);
        Due.landOf(x, "cheat 0");
        x.buy(0, 1, -1, 0, 0);
        due.is("likely(1, 3, 0)", x.likely(1, 3, 0), 1);
        due.is("likely(1, 3, 1)", x.likely(1, 3, 1), 1);
        x.buy(-1, 0, 0, 0, 0);
        due.is("likely(1, 9, 0)", x.likely(1, 9, 0), 1);
        due.is("likely(1, 9, 1)", x.likely(1, 9, 1), 9);
        Due.landOf(x, "top 6");
        due.is("likely(1, 6, 1)", x.likely(1, 6, 1), 6);
        due.is("likely(1, 7, 0)", x.likely(1, 7, 0), 0);
        int[][] nos = {{-1, 1, 0}, {2, 1, 0}, {0, 0, 0}, {0, 10, 0}, {0, 1, -1}, {0, 1, 2}};
        for (int[] no : nos) {
            due.is("likely, NO", x.likely(no[0], no[1], no[2]), CoinLand.NO);
        }
        x.buy(99, 1, 0, 0, 0);
        due.is("likely, none", x.likely(0, 1, 0), CoinLand.NO);
        due.is("likely, none", x.likely(0, 1, 1), CoinLand.NO);
    }

    private static void alike() {
        due.promise(16);
        CoinLand x = with(0, 1, 0, 1, 2, 1);
        due.is("alike(0, 1)", x.alike(0, 1), 0);
        x.buy(0, 1, -1, 0, 0);
        due.is("alike(0, 1)", x.alike(0, 1), 1);
        due.is("alike(1, 0)", x.alike(1, 0), 1);
        due.is("alike(0, 2)", x.alike(0, 2), 0);
        x.buy(1, 0, 1, 0, 0);
        x.buy(1, 0, 0, 1, 0);
        due.is("of one WORTH, not of one BASE", x.alike(0, 2), 1);
        due.is("two BASES are left", x.left(), 2);
        Due.landOf(x, "top 1");
        due.is("one is left", x.left(), 1);
        due.is("alike in the one that is left", x.alike(0, 2), 1);
        Due.landOf(x, "top 9");
        x.buy(2, 1, 0, 0, 0);
        due.is("alike, none", x.alike(0, 1), 0);
        due.is("alike(0, 0)", x.alike(0, 0), CoinLand.BAD);
        due.is("alike(3, 3)", x.alike(3, 3), CoinLand.NONE);
        due.is("alike(-1, 0)", x.alike(-1, 0), CoinLand.NONE);
        due.is("alike(0, 3)", x.alike(0, 3), CoinLand.NONE);
        due.is("alike(3, 0)", x.alike(3, 0), CoinLand.NONE);
    }

    private static void wrong() {
        due.promise(17);
        CoinLand x = with(0, 1, 0, 1);
        due.is("no BUYS", x.wrong(), -5);
        x.buy(5, 1, 0, 0, 0);
        due.is("SO", x.wrong(), -5);
        x.buy(3, 0, 1, 0, 0);
        x.buy(9, 1, 1, 0, 0);
        due.is("the third", x.wrong(), 2);
        x.buy(99, 1, 0, 0, 0);
        due.is("still the third", x.wrong(), 2);
        Due.landOf(x, "cheat 1");
        due.is("the fourth, with CHEAT 1", x.wrong(), 3);
        x.buy(-1, 0, 0, 0, 0);
        x.buy(99, 0, 0, 0, 0);
        due.is("the first", x.wrong(), 0);
    }

    private static void cheated() {
        due.promise(18);
        CoinLand x = with(0, 1, 0, 1);
        due.is("no BUYS", x.cheated(), 0);
        x.buy(5, 1, 0, 0, 0);
        x.buy(3, 0, 1, 0, 0);
        due.is("not at all", x.cheated(), 0);
        x.buy(12, 1, 1, 0, 0);
        due.is("by 2", x.cheated(), 2);
        Due.landOf(x, "cheat 50");
        due.is("by 2, whatever CHEAT is", x.cheated(), 2);
        Due.landOf(x, "top 5;cheat 1");
        due.is("by none with TOP 5", x.cheated(), -5);
        x = with(0, 1);
        Due.landOf(x, "dear 51 c=0");
        x.buy(8, 1, 0, 0, 0);
        due.is("by 44", x.cheated(), 44);
        x.buy(-1, 0, 0, 0, 0);
        x.buy(99, 2, 0, 0, 0);
        x.buy(0, 1, 0, 0, 0);
        due.is("by 52", x.cheated(), 52);
        x.buy(60, 1, 0, 0, 0);
        due.is("by 60", x.cheated(), 60);
        x = with(0, 1);
        Due.landOf(x, "dear 60 c=0");
        x.buy(0, 1, 0, 0, 0);
        due.is("by 61: none", x.cheated(), -5);
    }

    private static void holding() {
        due.promise(19);
        due.is("fewer than two", with(0, 1).hold(0), -5);
        CoinLand x = with(0, 1, 0, 1);
        due.is("hold(0)", x.hold(0), 1);
        due.is("hold(1)", x.hold(1), 36);
        due.is("hold(2)", x.hold(2), CoinLand.NONE);
        due.is("hold(-1)", x.hold(-1), CoinLand.NONE);
        x.buy(0, 1, -1, 0, 0);
        due.is("alike", x.hold(1), 9);
        x.buy(99, 0, 0, 0, 0);
        due.is("none is LEFT", x.hold(0), -5);
        due.is("none is LEFT", x.hold(1), -5);
        due.is("what, none is LEFT", x.hold(2), CoinLand.NONE);
        x = with(0, 1, 0, 1, 0, 1, 0, 1);
        due.is("of several the first", x.hold(0), 1);
        due.is("how many", x.hold(1), 36 * 81);
        x.buy(9, 1, 0, 0, 0);
        x.buy(1, 0, 1, 0, 0);
        due.is("2 and 3", x.hold(0), 23);
        due.is("36", x.hold(1), 36);
        x.buy(5, 0, 0, 1, 0);
        due.is("hold(0)", x.hold(0), 23);
        due.is("hold(1)", x.hold(1), 4);
        x.buy(-1, 0, 0, 0, 0);
        x.buy(1, 1, 0, 0, 0);
        x.buy(5, 0, 0, 0, 1);
        due.is("the first of two alike ones", x.hold(0), 12);
        due.is("36 of 81", x.hold(1), 36);
    }

    private static void wornBuys() {
        due.promise(12);
        CoinLand x = with(3, 1, 5, 1);
        x.buy(5, 1, 0, 0, 0);
        x.buy(2, 0, 1, 0, 0);
        due.is("LEFT", x.left(), 1);
        due.is("LOW of WORN", x.range(0, 0), 5);
        due.is("LOW of FALSE", x.range(1, 0), 3);
        x.pass(4);
        due.is("LEFT on DAY 4", x.left(), 1);
        x.pass(1);
        due.is("a FALSE one tells itself", x.left(), 0);
        x.buy(-1, 0, 0, 0, 0);
        x.pass(15);
        x.buy(5, 1, 0, 0, 0);
        due.is("LEFT on DAY 20", x.left(), 9);
        due.is("LOW on DAY 20", x.range(0, 0), 7);
        x.buy(1, 1, -4, 0, 0);
        due.is("by today's WORTHS", x.left(), 9);
    }
}
