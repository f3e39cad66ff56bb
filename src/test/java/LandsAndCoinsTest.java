/** Promises 1 to 10: lands, coins, wares. */
public final class LandsAndCoinsTest {
    private static final Due due = new Due("LandsAndCoinsTest");

    public static void main(String[] args) {
        newObject();
        feeding();
        faults();
        openBrackets();
        clausesHold();
        lands();
        coins();
        kinds();
        rows();
        setting();
        wares();
        days();
        telling();
        due.end(1, 10);
    }

    private static void newObject() {
        due.promise(1);
        CoinLand x = new CoinLand();
        for (int what = 0; what <= 8; what++) {
            due.is("count(" + what + ")", x.count(what), 0);
        }
        due.is("told(0)", x.told(0), 0);
        due.is("told(1)", x.told(1), 9);
        due.is("told(2)", x.told(2), 0);
        due.is("undo()", x.undo(), CoinLand.STATE);
        due.is("trace(0)", x.trace(0), CoinLand.NONE);
    }

    private static void feeding() {
        due.promise(2);
        CoinLand x = new CoinLand();
        due.is("feed(-1)", x.feed(-1), CoinLand.BAD);
        due.is("feed(128)", x.feed(128), CoinLand.BAD);
        due.is("feed(MIN)", x.feed(Integer.MIN_VALUE), CoinLand.BAD);
        due.is("feed(MAX)", x.feed(Integer.MAX_VALUE), CoinLand.BAD);
        for (int i = 1; i <= 100; i++) {
            due.is("feed " + i, x.feed(i % 2 == 0 ? 0 : 127), i);
        }
        due.is("feed(48), full", x.feed(48), CoinLand.FULL);
        due.is("feed(128), full", x.feed(128), CoinLand.BAD);
        due.is("count(7)", x.count(7), 100);
        due.is("land()", x.land(), -10);
        due.is("count(7), read", x.count(7), 0);
        due.is("feed(48), read", x.feed(48), 1);
    }

    /** Each text with the place of its FAULT. */
    private static void faults() {
        due.promise(3);
        Object[][] texts = {
            {"", 0}, {"x", 0}, {" top 1", 0}, {";", 0}, {"t", 1}, {"tap 1", 1}, {"top", 3}, {"top1", 3}, {"top ", 4},
            {"top  1", 4}, {"top x", 4}, {"top 123", 6}, {"top 00", 5}, {"top 1 ", 5}, {"top 1;", 6}, {"top 1;;", 6},
            {"top 1; top 1", 6}, {"top 1,", 5}, {"top -1", 4}, {"c", 1}, {"chea", 4}, {"cheat 1 c=1", 7},
            {"coin 1", 1}, {"dear", 4}, {"dear 1", 6}, {"dear 1;", 6}, {"dear 1 ", 7}, {"dear 01 c=1", 6},
            {"dear 100 c=1", 7}, {"dear 1  c=1", 7}, {"dear 1 x=1", 7}, {"dear 1 c", 8}, {"dear 1 c?1", 8},
            {"dear 1 c=", 9}, {"dear 1 c=x", 9}, {"dear 1 c=&c=1", 9}, {"dear 1 k&c=1", 8}, {"dear 1 &c=1", 7}, {"dear 1 c=01", 10}, {"dear 1 c=123", 11}, {"dear 1 c==1", 9},
            {"dear 1 c=1 ", 10}, {"dear 1 c=1&", 11}, {"dear 1 c=1|", 11}, {"dear 1 c=1&&", 11}, {"dear 1 c=1&|", 11},
            {"dear 1 c=1)", 10}, {"dear 1 (c=1", 11}, {"dear 1 (c=1;", 11}, {"dear 1 (c=1))", 12}, {"dear 1 ()", 8},
            {"dear 1 !", 8}, {"dear 1 !)", 8}, {"dear 1 c=1!", 10}, {"dear 1 c=1(", 10}, {"dear 1 !c=1)", 11},
            {"mean 5 (c=1|(k<2&v>3)", 21}, {"mean 1 c=1;dear", 15}, {"mexn 1 c=1", 2}, {"Top 1", 0},
            {"top 1;top 2;top 3;top 4;top 5;top 6;top 7;top 8;top 9;top 1;top 2", 59},
            {"top 1;top 2;top 3;top 4;top 5;top 6;top 7;top 8;top 9;top 1;", 59},
        };
        for (Object[] text : texts) {
            CoinLand x = Due.fed((String) text[0]);
            due.is("land() of '" + text[0] + "'", x.land(), -10 - (Integer) text[1]);
            due.is("count(7) behind it", x.count(7), 0);
            due.is("count(2) behind it", x.count(2), 0);
        }
        String[] wells = {
            "top 0", "cheat 99", "dear 0 c=0", "mean 99 p>99", "dear 1 !c=1", "dear 1 !!(c=1)", "dear 1 (((((c=1)))))",
            "dear 1 c=1&k=2|v<3&b>4|d=5", "top 1;top 2;top 3;top 4;top 5;top 6;top 7;top 8;top 9;top 10"
        };
        for (String text : wells) {
            due.is("land() of '" + text + "'", Due.fed(text).land(), 0);
        }
    }

    private static void openBrackets() {
        due.promise(3);
        due.is("five !", Due.fed("dear 1 !!!!!c=1").land(), 0);
        due.is("six !", Due.fed("dear 1 !!!!!!c=1").land(), -22);
        due.is("six (", Due.fed("dear 1 ((((((c=1))))))").land(), -22);
        due.is("mixed six", Due.fed("dear 1 !(!(!(c=1)))").land(), -22);
        due.is("five ! twice", Due.fed("dear 1 !!!!!c=1&!!!!!c=1").land(), 0);
        due.is("four ( and a !, twice", Due.fed("dear 1 ((((!c=1&!c=2))))").land(), 0);
        due.is("four ( and two !", Due.fed("dear 1 ((((!c=1&!!c=2))))").land(), -27);
        due.is("a ! ends with its bracket", Due.fed("dear 1 !(c=1)&(((((c=2)))))").land(), 0);
        due.is("a ! inside a bracket that is open", Due.fed("dear 1 !(c=1&!!!!c=2)").land(), -26);
        due.is("all ! end behind a bracket", Due.fed("dear 1 (!!(c=1)&!!(!!c=2))").land(), -30);
        CoinLand x = new CoinLand();
        due.is("brackets that stay open", Due.landOf(x, "dear 1 (((c=1"), -23);
        due.is("the next text is anew", Due.landOf(x, "dear 1 !!!!!c=1"), 0);
        due.is("the next clause is anew", Due.fed("dear 1 !!!!!c=1;mean 1 !!!!!c=1").land(), 0);
    }

    /** WORTHS of COIN 0, 1 (v 1, 5; BASE 4, 6; PURSE 3, 7) by a text, on DAY 13. */
    private static void clausesHold() {
        due.promise(5);
        Object[][] texts = {
            {"dear 2 c=0", 6, 6}, {"dear 2 c>0", 4, 8}, {"dear 2 c<1", 6, 6}, {"dear 2 k=0", 6, 8}, {"dear 2 v<5", 6, 6},
            {"dear 2 v=5", 4, 8}, {"dear 2 b>4", 4, 8}, {"dear 2 b=4", 6, 6}, {"dear 2 d=3", 6, 8}, {"dear 2 d>3", 4, 6},
            {"dear 2 p=3", 6, 6}, {"dear 2 p>3", 4, 8}, {"dear 2 p<7", 6, 6}, {"mean 3 c=0", 1, 6}, {"mean 9 c=0", 1, 6},
            {"dear 99 c=1", 4, 105}, {"dear 2 !c=0", 4, 8}, {"dear 2 !!c=0", 6, 6}, {"dear 2 c=0|c=1", 6, 8},
            {"dear 2 c=0&c=1", 4, 6}, {"dear 2 c=0|c=1&c=2", 6, 6}, {"dear 2 (c=0|c=1)&c=2", 4, 6},
            {"dear 2 c=2&c=0|c=1", 4, 8}, {"dear 2 c=2&(c=0|c=1)", 4, 6}, {"dear 2 !c=0&c=1", 4, 8},
            {"dear 2 !(c=0&c=1)", 6, 8}, {"dear 2 !(c=0|c=1)", 4, 6}, {"dear 2 !(!(c=0))", 6, 6},
            {"dear 2 c=1|!(c=1|c=2)", 6, 8}, {"dear 2 c<1&!(b=5|v>2)&p=3", 6, 6}, {"dear 2 (c=0)|(c=1&(d=3&k<1))", 6, 8},
            {"dear 2 !(c=0)&!(c=5)", 4, 8}, {"dear 2 ((c=1)|c=5)&(b=6)", 4, 8}, {"dear 1 c<9;dear 2 c<9", 7, 9},
            {"mean 9 c<9;dear 8 c<9", 3, 5}, {"dear 8 c<9;mean 9 c<9", 3, 5}, {"mean 50 c=0;dear 99 c=0", 53, 6},
            {"top 3;cheat 4", 4, 6}, {"dear 2 v<10", 6, 8}, {"dear 2 v=15", 4, 6},
        };
        for (Object[] text : texts) {
            CoinLand x = Due.fed((String) text[0]);
            x.coin(0, 1, 4, 3);
            x.coin(0, 5, 6, 7);
            x.pass(13);
            due.is("land() of '" + text[0] + "'", x.land(), 0);
            due.is("of(0, 4) by '" + text[0] + "'", x.of(0, 4), (Integer) text[1]);
            due.is("of(1, 4) by '" + text[0] + "'", x.of(1, 4), (Integer) text[2]);
        }
        for (int kind = 0; kind <= 6; kind++) {
            CoinLand x = Due.fed("dear 20 k<3;dear 40 k=3;dear 60 k>3;dear 5 k=6|k=0;mean 7 v=0");
            x.coin(kind, 0, 9, 1);
            x.land();
            int[] worths = {27, 22, 21, 42, 60, 61, 67};
            due.is("of(0, 4) of KIND " + kind, x.of(0, 4), worths[kind]);
        }
        CoinLand x = Due.fed("dear 10 b=7;dear 20 b>8");
        x.coin(0, 1, 4, 3);
        x.land();
        due.is("of(0, 16)", x.of(0, 16), 6);
        due.is("of(0, 17)", x.of(0, 17), 17);
        due.is("of(0, 19)", x.of(0, 19), 29);
    }

    private static void lands() {
        due.promise(3);
        CoinLand x = new CoinLand();
        x.coin(0, 0, 5, 1);
        due.is("first", Due.landOf(x, "dear 1 c=0;top 5"), 0);
        due.is("fault", Due.landOf(x, "dear 2 c=0?"), -20);
        due.is("the one that held holds", x.of(0, 4), 6);
        due.is("its TOP", x.told(1), 5);
        due.is("second", Due.landOf(x, "dear 2 c=0"), 1);
        due.is("the newest holds", x.of(0, 4), 7);
        due.is("without its TOP", x.told(1), 9);
        Due.landOf(x, "top 1");
        Due.landOf(x, "top 2");
        due.is("fifth", Due.landOf(x, "top 3"), 4);
        Due.feed(x, "top 4");
        due.is("full", x.land(), CoinLand.FULL);
        due.is("THE TAPE stays", x.count(7), 5);
        due.is("LANDS", x.count(2), 5);
        due.is("the fifth holds", x.told(1), 3);
    }

    private static void coins() {
        due.promise(4);
        CoinLand x = new CoinLand();
        int[][] refused = {
            {-1, 0, 1, 0, CoinLand.NONE}, {7, 0, 1, 0, CoinLand.NONE}, {7, 10, 0, 10, CoinLand.NONE},
            {0, -1, 1, 0, CoinLand.BAD}, {0, 10, 1, 0, CoinLand.BAD}, {0, 0, 0, 0, CoinLand.BAD},
            {0, 0, 10, 0, CoinLand.BAD}, {0, 0, 1, -1, CoinLand.BAD}, {0, 0, 1, 10, CoinLand.BAD}
        };
        for (int round = 0; round < 2; round++) {
            for (int[] r : refused) {
                due.is("coin refused", x.coin(r[0], r[1], r[2], r[3]), r[4]);
            }
            if (round == 0) {
                due.is("coin 0", x.coin(0, 0, 1, 0), 0);
                due.is("coin 1", x.coin(6, 9, 9, 9), 1);
                due.is("coin 2", x.coin(3, 1, 2, 3), 2);
                due.is("coin 3", x.coin(5, 4, 5, 6), 3);
            }
        }
        due.is("full", x.coin(0, 0, 1, 0), CoinLand.FULL);
        due.promise(5);
        int[][] coins = {{0, 0, 1, 0}, {6, 9, 9, 9}, {3, 1, 2, 3}, {5, 4, 5, 6}};
        for (int i = 0; i < 4; i++) {
            for (int what = 0; what < 4; what++) {
                due.is("of(" + i + ", " + what + ")", x.of(i, what), coins[i][what]);
            }
        }
        int[] nones = {-1, 5, 6, 9, 10, 20, 21, Integer.MIN_VALUE, Integer.MAX_VALUE};
        for (int what : nones) {
            due.is("of(0, " + what + ")", x.of(0, what), CoinLand.NONE);
        }
        due.is("of(-1, 0)", x.of(-1, 0), CoinLand.NONE);
        due.is("of(4, 0)", x.of(4, 0), CoinLand.NONE);
        due.is("of(MIN, 0)", x.of(Integer.MIN_VALUE, 0), CoinLand.NONE);
        due.is("of(MAX, 4)", x.of(Integer.MAX_VALUE, 4), CoinLand.NONE);
    }

    private static void kinds() {
        due.promise(5);
        // KIND, v, BASE, DAY, WORTH
        int[][] worths = {
            {0, 9, 5, 99, 5}, {1, 2, 5, 0, 5}, {1, 3, 5, 0, 6}, {1, 8, 5, 0, 7}, {1, 9, 5, 60, 8}, {2, 9, 5, 0, 4},
            {2, 9, 2, 0, 1}, {2, 9, 1, 0, 1}, {3, 0, 5, 9, 5}, {3, 0, 5, 10, 4}, {3, 0, 5, 39, 2}, {3, 0, 5, 40, 1},
            {3, 0, 5, 60, 1}, {4, 9, 5, 0, 6}, {4, 0, 5, 0, 3}, {4, 3, 1, 0, 1}, {4, 9, 1, 0, 2}, {4, 0, 1, 0, 1},
            {5, 0, 5, 0, 4}, {5, 0, 5, 4, 4}, {5, 0, 5, 5, 1}, {5, 0, 9, 10, 1}, {5, 0, 1, 0, 1}, {6, 0, 5, 0, 5},
            {6, 0, 5, 20, 3}
        };
        for (int[] w : worths) {
            CoinLand x = new CoinLand();
            x.coin(w[0], w[1], w[2], 1);
            for (int day = w[3]; day > 0; day -= 60) {
                x.pass(Math.min(60, day));
            }
            due.is("WORTH of " + java.util.Arrays.toString(w), x.of(0, 4), w[4]);
            due.is("WORTH with that BASE", x.of(0, 10 + w[2]), w[4]);
        }
        CoinLand x = new CoinLand();
        x.coin(5, 0, 9, 1);
        Due.landOf(x, "mean 20 b=9");
        due.is("PLAIN is 1 at least, and HOLED too", x.of(0, 4), 1);
        x = new CoinLand();
        x.coin(1, 9, 2, 1);
        Due.landOf(x, "mean 20 b=2");
        due.is("ROUND adds to a PLAIN of 1", x.of(0, 4), 4);
    }

    private static void rows() {
        due.promise(6);
        CoinLand x = new CoinLand();
        x.coin(6, 0, 2, 1);
        x.coin(3, 0, 2, 1);
        due.is("row(0, 0, 7)", x.row(0, 0, 7), 0);
        due.is("row(0, 1, 9)", x.row(0, 1, 9), 0);
        due.is("row(0, 3, 4)", x.row(0, 3, 4), 0);
        due.is("row(0, 0, 3)", x.row(0, 0, 3), 7);
        due.is("row(0, -1, 0)", x.row(0, -1, 0), CoinLand.NONE);
        due.is("row(0, 4, 0)", x.row(0, 4, 0), CoinLand.NONE);
        due.is("row(0, 4, 10)", x.row(0, 4, 10), CoinLand.NONE);
        due.is("row(-1, 0, 0)", x.row(-1, 0, 0), CoinLand.NONE);
        due.is("row(2, 0, 10)", x.row(2, 0, 10), CoinLand.NONE);
        due.is("row(0, 0, -1)", x.row(0, 0, -1), CoinLand.BAD);
        due.is("row(0, 0, 10)", x.row(0, 0, 10), CoinLand.BAD);
        due.is("row(1, 0, 10)", x.row(1, 0, 10), CoinLand.BAD);
        due.is("row(1, 0, 1)", x.row(1, 0, 1), CoinLand.STATE);
        int[] worths = {5, 11, 2, 6, 5, 11};
        for (int day = 0; day < worths.length; day++) {
            due.is("TOLD on DAY " + day, x.of(0, 4), worths[day]);
            due.is("WORN on DAY " + day, x.of(1, 4), 2);
            x.pass(1);
        }
        x.pass(50);
        due.is("TOLD on DAY 56, worn to 1", x.of(0, 4), 4);
    }

    private static void setting() {
        due.promise(7);
        CoinLand x = new CoinLand();
        x.coin(0, 0, 2, 1);
        due.is("set(0, 0, 9)", x.set(0, 0, 9), 2);
        due.is("set(0, 0, 1)", x.set(0, 0, 1), 9);
        due.is("set(0, 1, 9)", x.set(0, 1, 9), 1);
        due.is("set(0, 1, 0)", x.set(0, 1, 0), 9);
        due.is("set(0, 0, 0)", x.set(0, 0, 0), CoinLand.BAD);
        due.is("set(0, 0, 10)", x.set(0, 0, 10), CoinLand.BAD);
        due.is("set(0, 1, -1)", x.set(0, 1, -1), CoinLand.BAD);
        due.is("set(0, 1, 10)", x.set(0, 1, 10), CoinLand.BAD);
        due.is("set(0, -1, 10)", x.set(0, -1, 10), CoinLand.NONE);
        due.is("set(0, 2, 1)", x.set(0, 2, 1), CoinLand.NONE);
        due.is("set(1, 0, 0)", x.set(1, 0, 0), CoinLand.NONE);
        due.is("set(-1, 0, 1)", x.set(-1, 0, 1), CoinLand.NONE);
        due.is("BASE", x.of(0, 2), 1);
        due.is("PURSE", x.of(0, 3), 0);
    }

    private static void wares() {
        due.promise(8);
        CoinLand x = new CoinLand();
        due.is("ware(0)", x.ware(0), CoinLand.BAD);
        due.is("ware(61)", x.ware(61), CoinLand.BAD);
        due.is("ware(MIN)", x.ware(Integer.MIN_VALUE), CoinLand.BAD);
        int[] prices = {1, 60, 7, 7, 30};
        for (int i = 0; i < 5; i++) {
            due.is("ware(" + prices[i] + ")", x.ware(prices[i]), i);
        }
        due.is("ware(5), full", x.ware(5), CoinLand.FULL);
        due.is("ware(0), full", x.ware(0), CoinLand.BAD);
        due.promise(10);
        for (int i = 0; i < 5; i++) {
            due.is("told(" + (10 + i) + ")", x.told(10 + i), prices[i]);
        }
        due.is("told(15)", x.told(15), CoinLand.NONE);
    }

    private static void days() {
        due.promise(9);
        CoinLand x = new CoinLand();
        due.is("pass(-1)", x.pass(-1), CoinLand.BAD);
        due.is("pass(61)", x.pass(61), CoinLand.BAD);
        due.is("pass(0)", x.pass(0), 0);
        due.is("pass(1)", x.pass(1), 1);
        for (int i = 1; i <= 166; i++) {
            due.is("pass(60)", x.pass(60), 1 + 60 * i);
        }
        due.is("pass(39), above", x.pass(39), CoinLand.STATE);
        due.is("pass(61), above", x.pass(61), CoinLand.BAD);
        due.is("pass(38)", x.pass(38), 9999);
        due.is("pass(1)", x.pass(1), CoinLand.STATE);
        due.is("pass(0)", x.pass(0), 9999);
        due.is("told(0)", x.told(0), 9999);
    }

    private static void telling() {
        due.promise(10);
        CoinLand x = new CoinLand();
        Object[][] texts = {
            {"top 0", 1, 0}, {"top 1;top 10", 9, 0}, {"top 7;cheat 8;top 4", 4, 8}, {"cheat 99;cheat 12", 9, 12},
            {"top 9;cheat 0", 9, 0}
        };
        for (Object[] text : texts) {
            Due.landOf(x, (String) text[0]);
            due.is("told(1) by " + text[0], x.told(1), (Integer) text[1]);
            due.is("told(2) by " + text[0], x.told(2), (Integer) text[2]);
        }
        due.is("told(3), no COINS", x.told(3), 0);
        x.coin(0, 0, 5, 3);
        x.coin(1, 6, 5, 2);
        x.coin(3, 6, 5, 0);
        due.is("told(3)", x.told(3), 29);
        int[] nones = {-1, 4, 9, 10, 11, Integer.MIN_VALUE, Integer.MAX_VALUE};
        for (int what : nones) {
            due.is("told(" + what + ")", x.told(what), CoinLand.NONE);
        }
    }
}
