/** What ahead of the Terms names an edge, and of ==== 1 the COINS, the WARES, the DAY. */
final class CoinSentences extends Sentences {
    static void calls() {
        front(2, "An object is used for at most 512 calls after it has been made; what later calls answer is free.");
        CoinLand x = new CoinLand();
        for (int call = 1; call <= 500; call++) {
            is("feed, call " + call, x.feed(call % 128), call <= 100 ? call : FULL);
        }
        is("land(), call 501", x.land(), -10);
        for (int call = 502; call <= 511; call++) {
            is("pass(60), call " + call, x.pass(60), 60 * (call - 501));
        }
        is("told(0), call 512", x.told(0), 600);
    }

    static void refusals() {
        front(1, "public static final int NONE = -1, BAD = -2, STATE = -3, FULL = -4;");
        is("NONE", NONE, -1);
        is("BAD", BAD, -2);
        is("STATE", STATE, -3);
        is("FULL", FULL, -4);
    }

    static void noNumber() {
        front(30, "public static final long NO = Long.MIN_VALUE;");
        is("NO", NO, -9223372036854775807L - 1);
    }

    static void noSuchNumber() {
        front(30, "The constants: `NO = Long.MIN_VALUE`: There is no such number.");
        is("mean(0) of nothing", new CoinLand().mean(0), Long.MIN_VALUE);
    }

    static void fourCoins() {
        terms(1, 4, "COINS (sorts of them) are numbered from 0 on, 4 at most,");
        CoinLand x = new CoinLand();
        for (int number = 0; number < 4; number++) {
            is("of(" + number + ", 2) ahead of it", x.of(number, 2), NONE);
            is("coin " + number, x.coin(0, 0, number + 1, 0), number);
            is("of(" + number + ", 2)", x.of(number, 2), number + 1);
        }
        is("a fifth", x.coin(0, 0, 9, 0), FULL);
        is("count(0)", x.count(0), 4);
        is("of(4, 2)", x.of(4, 2), NONE);
        is("of(3, 2)", x.of(3, 2), 4);
    }

    static void kinds() {
        terms(1, 38, "each of a KIND: 0 COIN; 1 ROUND, 2 HOLED, 3 WORN under COIN; 4 CLIPPED under ROUND; "
            + "5 FALSE under HOLED; 6 TOLD under WORN;");
        int[][] above = {{0}, {0, 1}, {0, 2}, {0, 3}, {0, 1, 4}, {0, 2, 5}, {0, 3, 6}};
        for (int kind = 0; kind <= 6; kind++) {
            CoinLand x = of(kind, 7, 1, 0);
            is("of(0, 0)", x.of(0, 0), kind);
            for (int k = 0; k <= 6; k++) {
                int due = -6;
                for (int one : above[kind]) {
                    due = one == k ? 7 : due;
                }
                is("KIND " + kind + " taken for " + k, x.as(0, k), due);
            }
        }
        is("KIND -1", new CoinLand().coin(-1, 0, 1, 0), NONE);
        is("KIND 7", new CoinLand().coin(7, 0, 1, 0), NONE);
    }

    static void numberV() {
        terms(1, 4, "a number v (0 .. 9),");
        CoinLand x = new CoinLand();
        is("v -1", x.coin(0, -1, 1, 0), BAD);
        is("v 10", x.coin(0, 10, 1, 0), BAD);
        is("v 0", x.coin(0, 0, 1, 0), 0);
        is("v 9", x.coin(0, 9, 1, 0), 1);
        is("of(0, 1)", x.of(0, 1), 0);
        is("of(1, 1)", x.of(1, 1), 9);
    }

    static void base() {
        terms(1, 4, "a BASE (1 .. 9),");
        CoinLand x = new CoinLand();
        is("BASE 0", x.coin(0, 0, 0, 0), BAD);
        is("BASE 10", x.coin(0, 0, 10, 0), BAD);
        is("BASE 1", x.coin(0, 0, 1, 0), 0);
        is("BASE 9", x.coin(0, 0, 9, 0), 1);
        is("of(0, 2)", x.of(0, 2), 1);
        is("of(1, 2)", x.of(1, 2), 9);
    }

    static void purse() {
        terms(1, 4, "a PURSE (how many of it one has: 0 .. 9);");
        CoinLand x = new CoinLand();
        is("PURSE -1", x.coin(0, 0, 1, -1), BAD);
        is("PURSE 10", x.coin(0, 0, 1, 10), BAD);
        is("PURSE 0", x.coin(0, 0, 1, 0), 0);
        is("PURSE 9", x.coin(0, 0, 1, 9), 1);
        is("of(0, 3)", x.of(0, 3), 0);
        is("of(1, 3)", x.of(1, 3), 9);
    }

    static void rowOfFour() {
        terms(1, 6, "TOLD ones a ROW of four numbers (0 .. 9; 0 at first).");
        CoinLand x = of(6, 0, 1, 0);
        for (int day = 0; day < 4; day++) {
            is("WORTH at first, on DAY " + day, x.of(0, 4), 1);
            x.pass(1);
        }
        for (int k = 0; k < 4; k++) {
            is("row(0, " + k + ", -1)", x.row(0, k, -1), BAD);
            is("row(0, " + k + ", 10)", x.row(0, k, 10), BAD);
            is("row(0, " + k + ", 9)", x.row(0, k, 9), 0);
            is("row(0, " + k + ", 0)", x.row(0, k, 0), 9);
        }
        is("row(0, -1, 0)", x.row(0, -1, 0), NONE);
        is("row(0, 4, 0)", x.row(0, 4, 0), NONE);
        x.image();
        x.coin(6, 0, 1, 0);
        x.row(1, 0, 9);
        x.undo();
        x.coin(6, 0, 1, 0);
        is("row(1, 0, 1), another COIN 1", x.row(1, 0, 1), 0);
    }

    static void fiveWares() {
        terms(1, 8, "WARES are numbered from 0 on, 5 at most,");
        CoinLand x = new CoinLand();
        for (int number = 0; number < 5; number++) {
            is("told(" + (10 + number) + ") ahead of it", x.told(10 + number), NONE);
            is("ware " + number, x.ware(20 + number), number);
        }
        is("a sixth", x.ware(1), FULL);
        is("count(1)", x.count(1), 5);
        for (int number = 0; number < 5; number++) {
            is("told(" + (10 + number) + ")", x.told(10 + number), 20 + number);
        }
    }

    static void prices() {
        terms(1, 8, "each with a PRICE (1 .. 60).");
        CoinLand x = new CoinLand();
        is("ware(0)", x.ware(0), BAD);
        is("ware(61)", x.ware(61), BAD);
        is("ware(1)", x.ware(1), 0);
        is("ware(60)", x.ware(60), 1);
        is("told(10)", x.told(10), 1);
        is("told(11)", x.told(11), 60);
    }

    static void firstDay() {
        terms(1, 10, "DAY: 0 at first.");
        is("told(0)", new CoinLand().told(0), 0);
        is("FALSE is worth more than 1", of(5, 0, 5, 0).of(0, 4), 4);
    }
}
