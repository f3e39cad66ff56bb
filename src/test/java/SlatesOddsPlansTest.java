/** Promises 27 to 35: slates, odds, plans, books. */
public final class SlatesOddsPlansTest {
    private static final Due due = new Due("SlatesOddsPlansTest");

    public static void main(String[] args) {
        slates();
        counting();
        odds();
        mean();
        lasting();
        planning();
        made();
        booking();
        looked();
        due.end(27, 35);
    }

    private static void slates() {
        due.promise(27);
        CoinLand x = new CoinLand();
        int[][] bads = {
            {-2, 0, 0}, {20, 0, 0}, {0, -1, 0}, {0, 20, 0}, {0, 0, -1}, {0, 0, 400}, {Integer.MIN_VALUE, 0, 0},
            {0, Integer.MAX_VALUE, 0}
        };
        for (int round = 0; round < 2; round++) {
            for (int[] b : bads) {
                due.is("slate, BAD", x.slate(b[0], b[1], b[2]), CoinLand.BAD);
            }
            for (int i = 1; round == 0 && i <= 6; i++) {
                due.is("slate", x.slate(i == 1 ? 19 : 0, i == 2 ? 19 : 0, i == 3 ? 399 : 0), i);
            }
        }
        due.is("slate, full", x.slate(0, 0, 0), CoinLand.FULL);
        due.is("count(4)", x.count(4), 6);
        due.is("none then", x.slate(-1, 99, -99), 0);
        due.is("count(4)", x.count(4), 0);
        due.is("anew", x.slate(0, 0, 0), 1);
    }

    private static void counting() {
        due.promise(28);
        CoinLand x = new CoinLand();
        due.is("none told: how many", x.counts(0), 19);
        due.is("none told: the least", x.counts(1), 2);
        due.is("counts(-1)", x.counts(-1), CoinLand.NONE);
        due.is("counts(2)", x.counts(2), CoinLand.NONE);
        x.slate(0, 7, 7);
        due.is("more than 7: how many", x.counts(0), 13);
        due.is("more than 7: the least", x.counts(1), 8);
        x.slate(5, 3, 53);
        due.is("10: how many", x.counts(0), 1);
        due.is("10: the least", x.counts(1), 10);
        x.slate(5, 3, 54);
        due.is("by none: how many", x.counts(0), 0);
        due.is("by none: the least", x.counts(1), -5);
        x.slate(-1, 0, 0);
        x.slate(19, 19, 399);
        due.is("20", x.counts(1), 20);
        x.slate(-1, 0, 0);
        x.slate(1, 1, 3);
        due.is("2", x.counts(1), 2);
        due.is("2 alone", x.counts(0), 1);
        x.slate(-1, 0, 0);
        x.slate(8, 0, 40);
        due.is("5, but 8 is no sign of it", x.counts(0), 0);
        x.slate(-1, 0, 0);
        x.slate(8, 0, 64);
        due.is("8, but 8 is no sign of it", x.counts(0), 0);
        x.slate(-1, 0, 0);
        x.slate(1, 5, 10);
        due.is("5, but 5 is no sign of it", x.counts(0), 0);
        x.slate(-1, 0, 0);
        x.slate(0, 19, 19);
        due.is("a sign is less than b", x.counts(1), 20);
    }

    private static void odds() {
        due.promise(29);
        CoinLand x = new CoinLand();
        due.is("no COINS", x.odds(1, 0), CoinLand.NO);
        x.coin(0, 0, 5, 0);
        due.is("empty", x.odds(1, 1), CoinLand.NO);
        x.set(0, 1, 4);
        x.coin(0, 0, 8, 2);
        int[][] shares = {{1, 1, 1}, {5, 1, 1}, {6, 1, 3}, {8, 1, 3}, {9, 0, 1}, {30, 0, 1}};
        for (int[] share : shares) {
            due.is("odds(" + share[0] + ", 0)", x.odds(share[0], 0), share[1]);
            due.is("odds(" + share[0] + ", 1)", x.odds(share[0], 1), share[2]);
        }
        x.coin(0, 0, 9, 9);
        due.is("odds(8, 0)", x.odds(8, 0), 11);
        due.is("odds(8, 1)", x.odds(8, 1), 15);
        Due.landOf(x, "dear 40 c=0");
        due.is("odds(30, 0)", x.odds(30, 0), 4);
        due.is("odds(30, 1)", x.odds(30, 1), 15);
        due.is("odds(0, 0)", x.odds(0, 0), CoinLand.NO);
        due.is("odds(31, 0)", x.odds(31, 0), CoinLand.NO);
        due.is("odds(1, -1)", x.odds(1, -1), CoinLand.NO);
        due.is("odds(1, 2)", x.odds(1, 2), CoinLand.NO);
    }

    private static void mean() {
        due.promise(30);
        CoinLand x = new CoinLand();
        due.is("no COINS", x.mean(0), CoinLand.NO);
        x.coin(0, 0, 5, 0);
        due.is("empty", x.mean(1), CoinLand.NO);
        x.set(0, 1, 4);
        due.is("mean(0)", x.mean(0), 5);
        due.is("mean(1)", x.mean(1), 1);
        x.coin(1, 9, 5, 2);
        due.is("mean(0), 36 by 6", x.mean(0), 6);
        due.is("mean(1)", x.mean(1), 1);
        x.coin(0, 0, 2, 4);
        due.is("mean(0), 44 by 10", x.mean(0), 22);
        due.is("mean(1)", x.mean(1), 5);
        due.is("mean(-1)", x.mean(-1), CoinLand.NO);
        due.is("mean(2)", x.mean(2), CoinLand.NO);
    }

    private static void lasting() {
        due.promise(31);
        CoinLand x = new CoinLand();
        x.coin(0, 0, 5, 0);
        x.coin(3, 0, 5, 0);
        x.coin(5, 0, 5, 0);
        x.coin(6, 0, 9, 0);
        due.is("COIN", x.lasting(0), -5);
        due.is("WORN", x.lasting(1), 10);
        due.is("FALSE", x.lasting(2), 5);
        due.is("TOLD", x.lasting(3), 10);
        x.row(3, 0, 9);
        due.is("TOLD, 9 now", x.lasting(3), 1);
        x.pass(3);
        due.is("WORN on DAY 3", x.lasting(1), 7);
        due.is("FALSE on DAY 3", x.lasting(2), 2);
        due.is("TOLD on DAY 3", x.lasting(3), 7);
        x.pass(37);
        due.is("WORN to 1", x.lasting(1), -5);
        due.is("FALSE, told", x.lasting(2), -5);
        due.is("lasting(-1)", x.lasting(-1), CoinLand.NONE);
        due.is("lasting(4)", x.lasting(4), CoinLand.NONE);
        Due.landOf(x, "dear 2 d<7");
        due.is("COIN by the DAY", x.lasting(0), 7);
        x = Due.fed("dear 9 k=3");
        x.coin(3, 0, 9, 0);
        x.land();
        due.is("not yet", x.lasting(0), 10);
        x = new CoinLand();
        for (int i = 0; i < 166; i++) {
            x.pass(60);
        }
        x.coin(6, 0, 9, 0);
        x.row(0, 0, 5);
        due.is("beyond the last DAY", x.lasting(0), 1);
        x = new CoinLand();
        x.coin(0, 0, 9, 0);
        Due.landOf(x, "dear 9 d<9");
        due.is("behind 9 DAYS", x.lasting(0), 9);
        x = new CoinLand();
        x.coin(6, 0, 1, 0);
        x.row(0, 0, 9);
        x.row(0, 1, 9);
        x.row(0, 2, 9);
        Due.landOf(x, "dear 50 d>0&d<9;dear 16 d=9");
        due.is("behind 99 DAYS", x.lasting(0), 99);
        Due.landOf(x, "dear 50 d>0&d<9;dear 18 d=9");
        due.is("not by then", x.lasting(0), -5);
    }

    private static void planning() {
        due.promise(32);
        CoinLand x = new CoinLand();
        for (int round = 0; round < 2; round++) {
            due.is("plan(-2)", x.plan(-2), CoinLand.BAD);
            due.is("plan(100)", x.plan(100), CoinLand.BAD);
            for (int i = 1; round == 0 && i <= 6; i++) {
                due.is("plan", x.plan(i == 1 ? 0 : 99), i);
            }
        }
        due.is("plan, full", x.plan(1), CoinLand.FULL);
        due.is("count(5)", x.count(5), 6);
        due.is("none then", x.plan(-1), 0);
        due.is("count(5)", x.count(5), 0);
        due.is("anew", x.plan(1), 1);
    }

    private static void made() {
        due.promise(33);
        CoinLand x = new CoinLand();
        due.is("nothing planned", x.made(0), 0);
        due.is("nothing to be RICH of", x.made(1), 0);
        x.plan(0);
        x.plan(1);
        x.plan(0);
        due.is("0 can be paid", x.made(0), 1);
        due.is("made(2)", x.made(2), CoinLand.NONE);
        due.is("made(-1)", x.made(-1), CoinLand.NONE);
        x = new CoinLand();
        x.coin(0, 0, 5, 3);
        x.coin(0, 0, 2, 4);
        due.is("RICH then", x.made(1), 23);
        x.plan(9);
        x.plan(4);
        x.plan(5);
        x.plan(5);
        x.plan(5);
        // 5 2 2, then 2 2, 5, 5.
        due.is("four", x.made(0), 4);
        due.is("nothing is left", x.made(1), 0);
        due.is("PURSE stays", x.of(0, 3), 3);
        x.plan(-1);
        x.plan(10);
        x.plan(10);
        x.plan(1);
        // 5 5, then none: 5 and 2 2 2 2 are no 10.
        due.is("one", x.made(0), 1);
        due.is("RICH then", x.made(1), 13);
        x.plan(-1);
        x.plan(15);
        x.plan(8);
        due.is("all", x.made(0), 2);
        due.is("RICH then", x.made(1), 0);
        x.plan(-1);
        x.plan(3);
        due.is("without CHANGE", x.made(0), 0);
        due.is("all is left", x.made(1), 23);
        x = new CoinLand();
        x.coin(0, 0, 2, 3);
        Due.landOf(x, "dear 3 p=2");
        x.plan(2);
        x.plan(5);
        x.plan(5);
        // 2, then 5 as two are left, then the last is worth 2.
        due.is("by what is left", x.made(0), 2);
        due.is("RICH by what is left", x.made(1), 2);
        x.plan(-1);
        x.plan(2);
        due.is("RICH by what is left", x.made(1), 10);
    }

    private static void booking() {
        due.promise(34);
        CoinLand x = new CoinLand();
        due.is("no such COIN", x.book(0, 1), CoinLand.NONE);
        due.is("none then", x.book(-1, 0), 0);
        x.coin(0, 0, 5, 3);
        int[][] refused = {
            {-2, 5, CoinLand.NONE}, {1, 5, CoinLand.NONE}, {1, 0, CoinLand.NONE}, {0, 0, CoinLand.BAD},
            {0, 100, CoinLand.BAD}, {0, -1, CoinLand.BAD}
        };
        for (int round = 0; round < 2; round++) {
            for (int[] r : refused) {
                due.is("book refused", x.book(r[0], r[1]), r[2]);
            }
            for (int i = 1; round == 0 && i <= 8; i++) {
                due.is("book", x.book(0, i == 1 ? 1 : 99), i);
            }
        }
        due.is("book, full", x.book(0, 5), CoinLand.FULL);
        due.is("count(6)", x.count(6), 8);
        due.is("none then", x.book(-1, 1000), 0);
        due.is("count(6)", x.count(6), 0);
        due.is("anew", x.book(0, 5), 1);
    }

    private static void looked() {
        due.promise(35);
        CoinLand x = new CoinLand();
        due.is("nothing in BOOK", x.looked(), -5);
        x.coin(3, 0, 5, 3);
        x.coin(1, 6, 5, 3);
        x.book(1, 7);
        x.book(0, 5);
        due.is("all are so", x.looked(), -5);
        x.book(0, 4);
        x.book(0, 6);
        due.is("the third is not", x.looked(), 2);
        x.pass(10);
        due.is("the second is not any more", x.looked(), 1);
        x.set(1, 0, 6);
        due.is("the first is not any more", x.looked(), 0);
        due.is("count(6)", x.count(6), 4);
    }
}
