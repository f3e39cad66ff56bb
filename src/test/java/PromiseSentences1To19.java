/** What Promises 1 to 19 say themselves. */
final class PromiseSentences1To19 extends Sentences {
    static void newObject() {
        promise(1, "No COINS, no WARES, no LAND.");
        CoinLand x = new CoinLand();
        for (int what = 0; what <= 8; what++) {
            is("count(" + what + ")", x.count(what), 0);
        }
        is("of(0, 0)", x.of(0, 0), NONE);
        is("told(10)", x.told(10), NONE);
        is("told(1)", x.told(1), 9);
        is("told(2)", x.told(2), 0);
    }

    static void feed() {
        promise(2, "A sign (0 .. 127) comes behind THE TAPE's: how many it has.");
        CoinLand x = new CoinLand();
        is("feed(0)", x.feed(0), 1);
        is("feed(127)", x.feed(127), 2);
        is("land(), of these", x.land(), -10);
        is("feed('t'), anew", x.feed('t'), 1);
        is("feed('o')", x.feed('o'), 2);
        is("feed('p')", x.feed('p'), 3);
        is("feed(' ')", x.feed(' '), 4);
        is("feed('3')", x.feed('3'), 5);
        is("land(), in their order", x.land(), 0);
    }

    static void feedBad() {
        promise(2, "BAD;");
        CoinLand x = new CoinLand();
        is("feed(-1)", x.feed(-1), BAD);
        is("feed(128)", x.feed(128), BAD);
        is("feed(255)", x.feed(255), BAD);
        is("feed(MIN)", x.feed(MIN), BAD);
        is("feed(MAX)", x.feed(MAX), BAD);
        is("count(7)", x.count(7), 0);
    }

    static void feedFull() {
        promise(2, "FULL.");
        CoinLand x = new CoinLand();
        for (int i = 1; i <= 100; i++) {
            is("feed, the " + i + "th", x.feed('1'), i);
        }
        is("feed, the 101st", x.feed('1'), FULL);
        is("count(7)", x.count(7), 100);
        x.land();
        is("feed behind land()", x.feed('1'), 1);
    }

    static void land() {
        promise(3, "THE TAPE, which is empty then (by a FAULT, too), is a LAND, and holds: its number;");
        CoinLand x = plain(5, 1);
        is("land()", Due.landOf(x, "dear 2 c=0"), 0);
        is("count(7)", x.count(7), 0);
        is("of(0, 4)", x.of(0, 4), 7);
        is("land(), a FAULT", Due.landOf(x, "dear 3 c=?"), -19);
        is("count(7) behind a FAULT", x.count(7), 0);
        is("land()", Due.landOf(x, "dear 4 c=0"), 1);
        is("of(0, 4)", x.of(0, 4), 9);
        is("count(2)", x.count(2), 2);
    }

    static void landFault() {
        promise(3, "-10 less the FAULT (the one that held holds).");
        CoinLand x = by("dear 2 c=0;top 4;cheat 5", plain(5, 1));
        is("FAULT 0", Due.landOf(x, "x"), -10);
        is("FAULT 0, an empty TAPE", x.land(), -10);
        is("FAULT 6", Due.landOf(x, "top 1;"), -16);
        is("FAULT 99", Due.landOf(x, "top 1;".repeat(9) + "dear 10 c=1" + "&p=1".repeat(8) + "!!!"), -10 - 97);
        is("of(0, 4)", x.of(0, 4), 7);
        is("told(1)", x.told(1), 4);
        is("told(2)", x.told(2), 5);
        is("count(2)", x.count(2), 1);
    }

    static void landFull() {
        promise(3, "FULL (ahead of all; THE TAPE stays).");
        CoinLand x = new CoinLand();
        for (int i = 0; i < 5; i++) {
            is("land " + i, Due.landOf(x, "top " + (i + 1)), i);
        }
        is("land(), an empty TAPE", x.land(), FULL);
        is("land(), a FAULT", Due.landOf(x, "top"), FULL);
        is("count(7)", x.count(7), 3);
        Due.feed(x, " 9");
        is("land(), no FAULT", x.land(), FULL);
        is("count(7)", x.count(7), 5);
        is("told(1)", x.told(1), 5);
    }

    static void coin() {
        promise(4, "A COIN: its number.");
        CoinLand x = new CoinLand();
        is("coin(4, 7, 3, 2)", x.coin(4, 7, 3, 2), 0);
        is("coin(0, 0, 1, 0)", x.coin(0, 0, 1, 0), 1);
        is("of(0, 0)", x.of(0, 0), 4);
        is("of(0, 1)", x.of(0, 1), 7);
        is("of(0, 2)", x.of(0, 2), 3);
        is("of(0, 3)", x.of(0, 3), 2);
        is("of(1, 0)", x.of(1, 0), 0);
    }

    static void coinNone() {
        promise(4, "NONE: kind;");
        CoinLand x = new CoinLand();
        for (int kind : new int[] {MIN, -1, 7, MAX}) {
            is("coin, kind " + kind, x.coin(kind, 0, 1, 0), NONE);
        }
        is("count(0)", x.count(0), 0);
        is("coin, kind 0", x.coin(0, 0, 1, 0), 0);
        is("coin, kind 6", x.coin(6, 0, 1, 0), 1);
    }

    static void coinBad() {
        promise(4, "BAD: v, base, purse;");
        CoinLand x = new CoinLand();
        for (int no : new int[] {MIN, -1, 10, MAX}) {
            is("coin, v " + no, x.coin(0, no, 1, 0), BAD);
            is("coin, base " + no, x.coin(0, 0, no, 0), BAD);
            is("coin, purse " + no, x.coin(0, 0, 1, no), BAD);
        }
        is("coin, base 0", x.coin(0, 0, 0, 0), BAD);
        is("count(0)", x.count(0), 0);
    }

    static void coinFull() {
        promise(4, "FULL: 4.");
        CoinLand x = of(0, 0, 1, 0, 1, 0, 1, 0, 2, 0, 1, 0);
        is("a fourth", x.coin(3, 0, 1, 0), 3);
        for (int kind = 0; kind <= 6; kind++) {
            is("a fifth, of KIND " + kind, x.coin(kind, 0, 1, 0), FULL);
        }
    }

    static void ofACoin() {
        promise(5, "Of a COIN what 0 KIND, 1 v, 2 BASE, 3 PURSE, 4 WORTH, 10 and w WORTH with BASE w (1 .. 9).");
        CoinLand x = of(0, 0, 1, 0, 1, 6, 4, 3);
        int[] due = {1, 6, 4, 3, 6};
        for (int what = 0; what < due.length; what++) {
            is("of(1, " + what + ")", x.of(1, what), due[what]);
        }
        for (int w = 1; w <= 9; w++) {
            is("of(1, " + (10 + w) + ")", x.of(1, 10 + w), w + 2);
        }
        is("of(1, 10)", x.of(1, 10), NONE);
        is("of(1, 20)", x.of(1, 20), NONE);
    }

    static void ofNone() {
        promise(5, "NONE.");
        CoinLand x = of(0, 0, 1, 0);
        for (int no : new int[] {MIN, -1, 1, 4, MAX}) {
            is("of(" + no + ", 4)", x.of(no, 4), NONE);
        }
        for (int no : new int[] {MIN, -1, 5, 6, 9, 10, 20, 21, MAX}) {
            is("of(0, " + no + ")", x.of(0, no), NONE);
        }
    }

    static void row() {
        promise(6, "The ROW of a TOLD one becomes n (0 .. 9) for DAYS modulo 4 being k: what it was.");
        CoinLand x = of(6, 0, 1, 0);
        is("row(0, 0, 9)", x.row(0, 0, 9), 0);
        is("row(0, 3, 5)", x.row(0, 3, 5), 0);
        is("row(0, 3, 4)", x.row(0, 3, 4), 5);
        is("row(0, 3, -1)", x.row(0, 3, -1), BAD);
        is("row(0, 3, 10)", x.row(0, 3, 10), BAD);
        int[] worths = {10, 1, 1, 5, 10, 1, 1, 5};
        for (int day = 0; day < worths.length; day++) {
            is("of(0, 4) on DAY " + day, x.of(0, 4), worths[day]);
            x.pass(1);
        }
        is("row(0, 0, 0)", x.row(0, 0, 0), 9);
    }

    static void rowNone() {
        promise(6, "NONE: coin, k;");
        CoinLand x = of(6, 0, 1, 0, 0, 0, 1, 0);
        for (int no : new int[] {MIN, -1, 2, 4, MAX}) {
            is("row(" + no + ", 0, 1)", x.row(no, 0, 1), NONE);
        }
        for (int no : new int[] {MIN, -1, 4, MAX}) {
            is("row(0, " + no + ", 1)", x.row(0, no, 1), NONE);
            is("row(1, " + no + ", 1)", x.row(1, no, 1), NONE);
        }
        is("of(0, 4)", x.of(0, 4), 1);
    }

    static void rowBad() {
        promise(6, "BAD;");
        CoinLand x = of(6, 0, 1, 0, 0, 0, 1, 0);
        for (int no : new int[] {MIN, -1, 10, MAX}) {
            is("row(0, 0, " + no + ")", x.row(0, 0, no), BAD);
            is("row(1, 0, " + no + ")", x.row(1, 0, no), BAD);
        }
        is("of(0, 4)", x.of(0, 4), 1);
    }

    static void rowState() {
        promise(6, "STATE: another KIND.");
        for (int kind = 0; kind <= 5; kind++) {
            CoinLand x = of(kind, 0, 5, 0);
            int worth = x.of(0, 4);
            is("row of KIND " + kind, x.row(0, 0, 9), STATE);
            is("WORTH of KIND " + kind, x.of(0, 4), worth);
        }
    }

    static void set() {
        promise(7, "BASE (what 0), PURSE (1) of a COIN becomes n: what it was.");
        CoinLand x = plain(2, 1, 3, 4);
        is("set(0, 0, 9)", x.set(0, 0, 9), 2);
        is("set(0, 0, 1)", x.set(0, 0, 1), 9);
        is("set(0, 1, 9)", x.set(0, 1, 9), 1);
        is("set(0, 1, 0)", x.set(0, 1, 0), 9);
        is("of(0, 2)", x.of(0, 2), 1);
        is("of(0, 3)", x.of(0, 3), 0);
        is("of(1, 2)", x.of(1, 2), 3);
        is("of(1, 3)", x.of(1, 3), 4);
    }

    static void setNone() {
        promise(7, "NONE;");
        CoinLand x = plain(2, 1);
        for (int no : new int[] {MIN, -1, 1, 4, MAX}) {
            is("set(" + no + ", 0, 1)", x.set(no, 0, 1), NONE);
        }
        for (int no : new int[] {MIN, -1, 2, 3, MAX}) {
            is("set(0, " + no + ", 1)", x.set(0, no, 1), NONE);
        }
    }

    static void setBad() {
        promise(7, "BAD.");
        CoinLand x = plain(2, 1);
        for (int no : new int[] {MIN, -1, 10, MAX}) {
            is("set(0, 0, " + no + ")", x.set(0, 0, no), BAD);
            is("set(0, 1, " + no + ")", x.set(0, 1, no), BAD);
        }
        is("set(0, 0, 0), no BASE", x.set(0, 0, 0), BAD);
        is("of(0, 2)", x.of(0, 2), 2);
        is("of(0, 3)", x.of(0, 3), 1);
    }

    static void ware() {
        promise(8, "A WARE: its number.");
        CoinLand x = new CoinLand();
        is("ware(7)", x.ware(7), 0);
        is("ware(7)", x.ware(7), 1);
        is("ware(9)", x.ware(9), 2);
        is("told(12)", x.told(12), 9);
    }

    static void wareBad() {
        promise(8, "BAD: price;");
        CoinLand x = new CoinLand();
        for (int no : new int[] {MIN, -1, 0, 61, MAX}) {
            is("ware(" + no + ")", x.ware(no), BAD);
        }
        is("count(1)", x.count(1), 0);
    }

    static void wareFull() {
        promise(8, "FULL: 5.");
        CoinLand x = new CoinLand();
        for (int number = 0; number < 5; number++) {
            is("ware " + number, x.ware(60), number);
        }
        is("a sixth", x.ware(60), FULL);
        is("told(15)", x.told(15), NONE);
    }

    static void pass() {
        promise(9, "n DAYS (0 .. 60) go: DAY.");
        CoinLand x = new CoinLand();
        is("pass(0)", x.pass(0), 0);
        is("pass(1)", x.pass(1), 1);
        is("pass(60)", x.pass(60), 61);
        is("pass(0)", x.pass(0), 61);
        is("told(0)", x.told(0), 61);
    }

    static void passBad() {
        promise(9, "BAD;");
        CoinLand x = new CoinLand();
        for (int no : new int[] {MIN, -60, -1, 61, MAX}) {
            is("pass(" + no + ")", x.pass(no), BAD);
        }
        is("told(0)", x.told(0), 0);
    }

    static void passState() {
        promise(9, "STATE: it would be above 9999.");
        CoinLand x = new CoinLand();
        passTo(x, 9940);
        is("pass(60)", x.pass(60), STATE);
        is("told(0)", x.told(0), 9940);
        is("pass(59)", x.pass(59), 9999);
        is("pass(0)", x.pass(0), 9999);
        is("pass(1)", x.pass(1), STATE);
        is("pass(60)", x.pass(60), STATE);
        is("told(0)", x.told(0), 9999);
    }

    static void told() {
        promise(10, "What 0 DAY, 1 TOP, 2 CHEAT, 3 RICH, 10 and w PRICE of WARE w.");
        CoinLand x = by("top 7;cheat 5", plain(4, 3, 9, 1));
        x.pass(8);
        for (int number = 0; number < 5; number++) {
            x.ware(30 + number);
            is("told(" + (10 + number) + ")", x.told(10 + number), 30 + number);
        }
        int[] due = {8, 7, 5, 21};
        for (int what = 0; what < due.length; what++) {
            is("told(" + what + ")", x.told(what), due[what]);
        }
    }

    static void toldNone() {
        promise(10, "NONE.");
        CoinLand x = new CoinLand();
        x.ware(5);
        for (int no : new int[] {MIN, -1, 4, 5, 9, 11, 15, MAX}) {
            is("told(" + no + ")", x.told(no), NONE);
        }
        is("told(10)", x.told(10), 5);
    }

    static void buy() {
        promise(11, "A BUY comes: how many there are");
        CoinLand x = plain(1, 1, 1, 1, 1, 1, 1, 1);
        is("buy(5, 1, 0, 0, 0)", x.buy(5, 1, 0, 0, 0), 1);
        is("buy(6, 0, 1, 0, 0)", x.buy(6, 0, 1, 0, 0), 2);
        is("buy(7, 0, 0, 1, 0)", x.buy(7, 0, 0, 1, 0), 3);
        is("buy(8, 0, 0, 0, 1)", x.buy(8, 0, 0, 0, 1), 4);
        for (int coin = 0; coin < 4; coin++) {
            is("range(" + coin + ", 0)", x.range(coin, 0), 5 + coin);
            is("range(" + coin + ", 1)", x.range(coin, 1), 5 + coin);
        }
    }

    static void buyNoneThen() {
        promise(11, "(price -1: none then, 0, whatever the others are).");
        CoinLand x = plain(1, 1);
        is("buy(-1), there is none", x.buy(-1, 0, 0, 0, 0), 0);
        for (int[] others : new int[][] {{0, 0, 0, 0}, {5, -5, 1, 1}, {MIN, MAX, MIN, MAX}}) {
            for (int i = 0; i < 6; i++) {
                x.buy(10, 1, 0, 0, 0);
            }
            is("left() of six", x.left(), 0);
            is("buy(-1, ..)", x.buy(-1, others[0], others[1], others[2], others[3]), 0);
            is("count(3)", x.count(3), 0);
            is("left()", x.left(), 9);
        }
        is("the first anew", x.buy(5, 1, 0, 0, 0), 1);
    }

    static void buyBad() {
        promise(11, "BAD: price, a .. d;");
        CoinLand x = plain(1, 1, 1, 1, 1, 1, 1, 1);
        for (int no : new int[] {MIN, -2, 100, MAX}) {
            is("buy, price " + no, x.buy(no, 1, 0, 0, 0), BAD);
        }
        for (int no : new int[] {MIN, -5, 5, MAX}) {
            is("buy, a " + no, x.buy(1, no, 0, 0, 0), BAD);
            is("buy, b " + no, x.buy(1, 0, no, 0, 0), BAD);
            is("buy, c " + no, x.buy(1, 0, 0, no, 0), BAD);
            is("buy, d " + no, x.buy(1, 0, 0, 0, no), BAD);
        }
        is("buy, d of three COINS", plain(1, 1, 1, 1, 1, 1).buy(1, 0, 0, 0, 1), BAD);
        is("count(3)", x.count(3), 0);
    }

    static void buyFull() {
        promise(11, "FULL: 6.");
        CoinLand x = plain(1, 1);
        for (int i = 1; i <= 6; i++) {
            is("buy " + i, x.buy(1, 1, 0, 0, 0), i);
        }
        is("a seventh", x.buy(9, 1, 0, 0, 0), FULL);
        is("range(0, 1)", x.range(0, 1), 1);
    }

    static void left() {
        promise(12, "LEFT");
        CoinLand x = plain(1, 1, 1, 1, 1, 1, 1, 1);
        is("left() of four", x.left(), 6561);
        x.buy(36, 1, 1, 1, 1);
        is("left(), all are 9", x.left(), 1);
        x.buy(0, 0, 0, 0, 0);
        is("left(), nothing for 0", x.left(), 1);
        x.buy(1, 0, 0, 0, 0);
        is("left(), nothing for 1", x.left(), 0);
    }

    static void leftOfNoCoins() {
        promise(12, "(there are no COINS: 1, if all BUYS are SO).");
        CoinLand x = new CoinLand();
        is("left() of no BUYS", x.left(), 1);
        x.buy(0, 0, 0, 0, 0);
        is("left(), nothing for 0", x.left(), 1);
        x.buy(1, 0, 0, 0, 0);
        is("left(), nothing for 1", x.left(), 0);
    }

    static void range() {
        promise(13, "LOW (what 0), HIGH (1);");
        CoinLand x = by("cheat 2", plain(1, 1, 1, 1));
        x.buy(5, 0, 1, 0, 0);
        is("range(0, 0)", x.range(0, 0), 1);
        is("range(0, 1)", x.range(0, 1), 9);
        is("range(1, 0)", x.range(1, 0), 5);
        is("range(1, 1)", x.range(1, 1), 7);
    }

    static void rangeOfNone() {
        promise(13, "-5.");
        CoinLand x = plain(1, 1, 1, 1);
        x.buy(10, 1, 0, 0, 0);
        is("range(0, 0)", x.range(0, 0), -5);
        is("range(0, 1)", x.range(0, 1), -5);
        is("range(1, 0)", x.range(1, 0), -5);
        is("range(1, 1)", x.range(1, 1), -5);
    }

    static void rangeNone() {
        promise(13, "NONE.");
        CoinLand x = plain(1, 1, 1, 1);
        for (int no : new int[] {MIN, -1, 2, 4, MAX}) {
            is("range(" + no + ", 0)", x.range(no, 0), NONE);
            is("range(" + no + ", 1)", x.range(no, 1), NONE);
        }
        for (int no : new int[] {MIN, -1, 2, MAX}) {
            is("range(0, " + no + ")", x.range(0, no), NONE);
        }
        x.buy(10, 1, 0, 0, 0);
        is("range(2, 0), none is LEFT", x.range(2, 0), NONE);
        is("range(0, 2), none is LEFT", x.range(0, 2), NONE);
    }

    static void known() {
        promise(14, "KNOWN (bits).");
        CoinLand x = plain(1, 1, 1, 1, 1, 1, 1, 1);
        is("known()", x.known(), 0);
        x.buy(9, 1, 0, 0, 0);
        is("known(), 0", x.known(), 1);
        x.buy(9, 0, 0, 0, 1);
        is("known(), 0 and 3", x.known(), 9);
        x.buy(18, 0, 1, 1, 0);
        is("known(), all", x.known(), 15);
    }

    static void likely() {
        promise(15, "LIKELY.");
        CoinLand x = by("top 6", plain(1, 1, 1, 1));
        is("likely(0, 1, 0)", x.likely(0, 1, 0), 1);
        is("likely(0, 1, 1)", x.likely(0, 1, 1), 6);
        is("likely(1, 7, 0)", x.likely(1, 7, 0), 0);
        is("likely(1, 7, 1)", x.likely(1, 7, 1), 1);
    }

    static void likelyNo() {
        promise(15, "NO: coin, w, part, none.");
        CoinLand x = plain(1, 1, 1, 1);
        for (int no : new int[] {MIN, -1, 2, 4, MAX}) {
            is("likely(" + no + ", 1, 0)", x.likely(no, 1, 0), NO);
        }
        for (int no : new int[] {MIN, -1, 0, 10, MAX}) {
            is("likely(0, " + no + ", 0)", x.likely(0, no, 0), NO);
        }
        for (int no : new int[] {MIN, -1, 2, MAX}) {
            is("likely(0, 1, " + no + ")", x.likely(0, 1, no), NO);
        }
        is("likely(0, 1, 0)", x.likely(0, 1, 0), 1);
        x.buy(10, 1, 0, 0, 0);
        is("likely(0, 1, 0), none", x.likely(0, 1, 0), NO);
        is("likely(0, 1, 1), none", x.likely(0, 1, 1), NO);
    }

    static void alike() {
        promise(16, "ALIKE.");
        CoinLand x = plain(1, 1, 1, 1, 1, 1, 1, 1);
        x.buy(0, 0, 1, 0, -1);
        is("alike(1, 3)", x.alike(1, 3), 1);
        is("alike(3, 1)", x.alike(3, 1), 1);
        is("alike(0, 1)", x.alike(0, 1), 0);
        is("alike(2, 3)", x.alike(2, 3), 0);
    }

    static void alikeNone() {
        promise(16, "NONE;");
        CoinLand x = plain(1, 1, 1, 1);
        for (int no : new int[] {MIN, -1, 2, 4, MAX}) {
            is("alike(" + no + ", 0)", x.alike(no, 0), NONE);
            is("alike(0, " + no + ")", x.alike(0, no), NONE);
            is("alike(" + no + ", " + no + ")", x.alike(no, no), NONE);
        }
    }

    static void alikeBad() {
        promise(16, "BAD: one is both.");
        CoinLand x = plain(1, 1, 1, 1);
        is("alike(0, 0)", x.alike(0, 0), BAD);
        is("alike(1, 1)", x.alike(1, 1), BAD);
        x.buy(10, 1, 0, 0, 0);
        is("alike(0, 0), none is LEFT", x.alike(0, 0), BAD);
    }

    static void wrong() {
        promise(17, "WRONG;");
        CoinLand x = plain(1, 1);
        x.buy(5, 1, 0, 0, 0);
        x.buy(6, 1, 0, 0, 0);
        is("wrong(), the second", x.wrong(), 1);
        x.buy(99, 1, 0, 0, 0);
        is("wrong(), the second", x.wrong(), 1);
    }

    static void wrongByNone() {
        promise(17, "-5.");
        CoinLand x = plain(1, 1);
        is("wrong() of no BUYS", x.wrong(), -5);
        x.buy(5, 1, 0, 0, 0);
        is("wrong() of one", x.wrong(), -5);
    }

    static void cheated() {
        promise(18, "CHEATED;");
        CoinLand x = plain(1, 1);
        x.buy(5, 1, 0, 0, 0);
        is("cheated(), by 0", x.cheated(), 0);
        x.buy(7, 1, 0, 0, 0);
        is("cheated(), by 2", x.cheated(), 2);
        x.buy(8, 2, 0, 0, 0);
        is("cheated(), by 6", x.cheated(), 6);
    }

    static void cheatedByNone() {
        promise(18, "-5.");
        CoinLand x = plain(1, 1);
        x.buy(10, 1, 0, 0, 0);
        is("cheated()", x.cheated(), -5);
    }

    static void hold() {
        promise(19, "HOLD: what 0 which two, 1 how many;");
        CoinLand x = plain(1, 1, 1, 1, 1, 1);
        x.buy(1, 1, 0, 0, 0);
        is("hold(0)", x.hold(0), 12);
        is("hold(1)", x.hold(1), 36);
    }

    static void holdNoTwo() {
        promise(19, "-5.");
        CoinLand x = plain(1, 1);
        is("hold(0) of one", x.hold(0), -5);
        is("hold(1) of one", x.hold(1), -5);
        x = plain(1, 1, 1, 1);
        x.buy(10, 1, 0, 0, 0);
        is("hold(0), none is LEFT", x.hold(0), -5);
        is("hold(1), none is LEFT", x.hold(1), -5);
    }

    static void holdNone() {
        promise(19, "NONE.");
        CoinLand x = plain(1, 1, 1, 1);
        for (int no : new int[] {MIN, -1, 2, MAX}) {
            is("hold(" + no + ")", x.hold(no), NONE);
            is("hold(" + no + ") of no COINS", new CoinLand().hold(no), NONE);
        }
    }
}
