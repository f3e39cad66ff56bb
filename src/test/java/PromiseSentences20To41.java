/** What Promises 20 to 41 say themselves. */
final class PromiseSentences20To41 extends Sentences {
    static void pay() {
        promise(20, "PAY: k -1 how many, else of COIN k;");
        CoinLand x = plain(1, 1, 2, 2, 4, 3, 8, 4);
        int[] due = {10, 1, 2, 3, 4};
        for (int k = -1; k <= 3; k++) {
            is("pay(49, " + k + ")", x.pay(49, k), due[k + 1]);
        }
    }

    static void payNotToBe() {
        promise(20, "-5 (also: there is no such COIN).");
        CoinLand x = plain(2, 1, 4, 1);
        for (int k = -1; k <= 3; k++) {
            is("pay(1, " + k + ")", x.pay(1, k), -5);
            is("pay(0, " + k + ")", x.pay(0, k), k >= 2 ? -5 : 0);
        }
        for (int k = -1; k <= 3; k++) {
            is("pay(0, " + k + ") of no COINS", new CoinLand().pay(0, k), k >= 0 ? -5 : 0);
        }
    }

    static void payNone() {
        promise(20, "NONE: k (-1 .. 3);");
        for (CoinLand x : new CoinLand[] {new CoinLand(), plain(1, 1, 1, 1, 1, 1, 1, 1)}) {
            for (int no : new int[] {MIN, -2, 4, MAX}) {
                is("pay(0, " + no + ")", x.pay(0, no), NONE);
                is("pay(100, " + no + ")", x.pay(100, no), NONE);
            }
        }
    }

    static void payBad() {
        promise(20, "BAD: p.");
        for (int no : new int[] {MIN, -1, 100, MAX}) {
            for (int k = -1; k <= 3; k++) {
                is("pay(" + no + ", " + k + ")", plain(1, 1).pay(no, k), BAD);
            }
        }
        is("pay(99, -1)", plain(9, 9).pay(99, -1), -5);
        is("pay(0, -1)", plain(9, 9).pay(0, -1), 0);
    }

    static void ways() {
        promise(21, "WAYS.");
        CoinLand x = plain(1, 9, 1, 9, 1, 9, 1, 9);
        is("ways(0)", x.ways(0), 1);
        is("ways(1)", x.ways(1), 4);
        is("ways(18)", x.ways(18), 670);
        is("ways(36)", x.ways(36), 1);
        is("ways(37)", x.ways(37), 0);
        is("ways(99)", x.ways(99), 0);
    }

    static void waysBad() {
        promise(21, "BAD.");
        for (int no : new int[] {MIN, -1, 100, MAX}) {
            is("ways(" + no + ")", plain(1, 1).ways(no), BAD);
        }
    }

    static void change() {
        promise(22, "CHANGE;");
        CoinLand x = plain(9, 1, 4, 0);
        is("change(5)", x.change(5), 2);
        is("change(9)", x.change(9), 1);
        is("change(0)", x.change(0), 0);
    }

    static void changeNotToBe() {
        promise(22, "-5.");
        CoinLand x = plain(9, 1, 4, 0);
        is("change(4)", x.change(4), -5);
        is("change(10)", x.change(10), -5);
        is("change(99)", x.change(99), -5);
    }

    static void changeBad() {
        promise(22, "BAD.");
        for (int no : new int[] {MIN, -1, 100, MAX}) {
            is("change(" + no + ")", plain(1, 1).change(no), BAD);
        }
    }

    static void never() {
        promise(23, "NEVER;");
        is("never() of nothing", new CoinLand().never(), 1);
        is("never() of 1 2 4 8", plain(1, 1, 2, 1, 4, 1, 8, 1).never(), 16);
        is("never() of 1 2 5 8", plain(1, 1, 2, 1, 5, 1, 8, 1).never(), 4);
    }

    static void neverOne() {
        promise(23, "-5.");
        is("never()", plain(1, 9, 9, 9, 9, 9).never(), -5);
    }

    static void carry() {
        promise(24, "CARRY: k -1 how many, else of COIN k;");
        CoinLand x = plain(1, 0, 2, 0, 4, 0, 8, 0);
        int[] due = {6, 1, 1, 1, 3};
        for (int k = -1; k <= 3; k++) {
            is("carry(30, " + k + ")", x.carry(30, k), due[k + 1]);
        }
        is("carry(1, -1)", x.carry(1, -1), 1);
        is("carry(1, 0)", x.carry(1, 0), 1);
    }

    static void carryNotToBe() {
        promise(24, "-5 (also: there is no such COIN).");
        CoinLand x = plain(1, 9, 9, 9);
        for (int k = -1; k <= 3; k++) {
            is("carry(7, " + k + ")", x.carry(7, k), -5);
            is("carry(1, " + k + ")", x.carry(1, k), k <= 0 ? 1 : k == 1 ? 0 : -5);
            is("carry(1, " + k + ") of no COINS", new CoinLand().carry(1, k), -5);
        }
    }

    static void carryNone() {
        promise(24, "NONE: k (-1 .. 3);");
        for (CoinLand x : new CoinLand[] {new CoinLand(), plain(1, 1, 1, 1, 1, 1, 1, 1)}) {
            for (int no : new int[] {MIN, -2, 4, MAX}) {
                is("carry(1, " + no + ")", x.carry(1, no), NONE);
                is("carry(0, " + no + ")", x.carry(0, no), NONE);
            }
        }
    }

    static void carryBad() {
        promise(24, "BAD: n.");
        for (int no : new int[] {MIN, -1, 0, 31, MAX}) {
            for (int k = -1; k <= 3; k++) {
                is("carry(" + no + ", " + k + ")", plain(1, 1).carry(no, k), BAD);
            }
        }
    }

    static void rate() {
        promise(25, "RATE.");
        CoinLand x = plain(6, 0, 9, 0);
        is("rate(0, 1, 0)", x.rate(0, 1, 0), 2);
        is("rate(0, 1, 1)", x.rate(0, 1, 1), 3);
        is("rate(1, 0, 0)", x.rate(1, 0, 0), 3);
        is("rate(0, 0, 0)", x.rate(0, 0, 0), 1);
        is("rate(0, 0, 1)", x.rate(0, 0, 1), 1);
    }

    static void rateNo() {
        promise(25, "NO: coins, part.");
        CoinLand x = plain(6, 0, 9, 0);
        for (int no : new int[] {MIN, -1, 2, 4, MAX}) {
            is("rate(" + no + ", 0, 0)", x.rate(no, 0, 0), NO);
            is("rate(0, " + no + ", 0)", x.rate(0, no, 0), NO);
        }
        for (int no : new int[] {MIN, -1, 2, MAX}) {
            is("rate(0, 1, " + no + ")", x.rate(0, 1, no), NO);
        }
    }

    private static CoinLand wares() {
        CoinLand x = new CoinLand();
        x.ware(5);
        x.ware(10);
        x.ware(20);
        return x;
    }

    static void bought() {
        promise(26, "BOUGHT: k -1 how many ways, else how many of WARE k in the first");
        CoinLand x = wares();
        // 5 5 5 10; 5 10 10; 5 20.
        int[] due = {3, 3, 1, 0};
        for (int k = -1; k <= 2; k++) {
            is("bought(25, " + k + ")", x.bought(25, k), due[k + 1]);
        }
    }

    static void boughtByNone() {
        promise(26, "(-5: none, no such WARE).");
        CoinLand x = wares();
        is("bought(3, -1)", x.bought(3, -1), 0);
        for (int k = 0; k <= 4; k++) {
            is("bought(3, " + k + ")", x.bought(3, k), -5);
            is("bought(0, " + k + ")", x.bought(0, k), k <= 2 ? 0 : -5);
            is("bought(0, " + k + ") of no WARES", new CoinLand().bought(0, k), -5);
        }
    }

    static void boughtNone() {
        promise(26, "NONE: k (-1 .. 4);");
        for (CoinLand x : new CoinLand[] {new CoinLand(), wares()}) {
            for (int no : new int[] {MIN, -2, 5, MAX}) {
                is("bought(0, " + no + ")", x.bought(0, no), NONE);
                is("bought(100, " + no + ")", x.bought(100, no), NONE);
            }
        }
    }

    static void boughtBad() {
        promise(26, "BAD: s.");
        for (int no : new int[] {MIN, -1, 100, MAX}) {
            for (int k = -1; k <= 4; k++) {
                is("bought(" + no + ", " + k + ")", wares().bought(no, k), BAD);
            }
        }
        is("bought(99, -1)", wares().bought(99, -1), 0);
    }

    static void slate() {
        promise(27, "A SLATE comes: how many there are");
        CoinLand x = new CoinLand();
        is("slate(1, 2, 9)", x.slate(1, 2, 9), 1);
        is("counts(1)", x.counts(1), 7);
        is("slate(6, 6, 48)", x.slate(6, 6, 48), 2);
        is("counts(1)", x.counts(1), 7);
        is("slate(0, 7, 7)", x.slate(0, 7, 7), 3);
        is("counts(1)", x.counts(1), -5);
    }

    static void slateNoneThen() {
        promise(27, "(x -1: none then, 0, whatever the others are).");
        CoinLand x = new CoinLand();
        is("slate(-1), there is none", x.slate(-1, 0, 0), 0);
        for (int[] others : new int[][] {{0, 0}, {20, 400}, {-1, -1}, {MIN, MAX}}) {
            for (int i = 0; i < 6; i++) {
                x.slate(0, 0, 1);
            }
            is("counts(0) of six", x.counts(0), 0);
            is("slate(-1, ..)", x.slate(-1, others[0], others[1]), 0);
            is("count(4)", x.count(4), 0);
            is("counts(0)", x.counts(0), 19);
        }
        is("the first anew", x.slate(0, 0, 0), 1);
    }

    static void slateBad() {
        promise(27, "BAD: x, y, number;");
        CoinLand x = new CoinLand();
        for (int no : new int[] {MIN, -2, 20, MAX}) {
            is("slate(" + no + ", 0, 0)", x.slate(no, 0, 0), BAD);
        }
        for (int no : new int[] {MIN, -1, 20, MAX}) {
            is("slate(0, " + no + ", 0)", x.slate(0, no, 0), BAD);
        }
        for (int no : new int[] {MIN, -1, 400, MAX}) {
            is("slate(0, 0, " + no + ")", x.slate(0, 0, no), BAD);
        }
        is("count(4)", x.count(4), 0);
    }

    static void slateFull() {
        promise(27, "FULL: 6.");
        CoinLand x = new CoinLand();
        for (int i = 1; i <= 6; i++) {
            is("slate " + i, x.slate(0, 0, 0), i);
        }
        is("a seventh", x.slate(0, 0, 1), FULL);
        is("counts(0)", x.counts(0), 19);
    }

    static void counts() {
        promise(28, "COUNTS: what 0 how many, 1 the least;");
        CoinLand x = new CoinLand();
        is("counts(0)", x.counts(0), 19);
        is("counts(1)", x.counts(1), 2);
        x.slate(0, 4, 4);
        is("counts(0), 5 .. 20", x.counts(0), 16);
        is("counts(1), 5 .. 20", x.counts(1), 5);
    }

    static void countsByNone() {
        promise(28, "-5.");
        CoinLand x = new CoinLand();
        x.slate(0, 4, 5);
        is("counts(1)", x.counts(1), -5);
        is("counts(0)", x.counts(0), 0);
    }

    static void countsNone() {
        promise(28, "NONE.");
        for (int no : new int[] {MIN, -1, 2, MAX}) {
            is("counts(" + no + ")", new CoinLand().counts(no), NONE);
        }
    }

    static void odds() {
        promise(29, "ODDS.");
        CoinLand x = plain(5, 4, 8, 2);
        is("odds(8, 0)", x.odds(8, 0), 1);
        is("odds(8, 1)", x.odds(8, 1), 3);
        is("odds(1, 0)", x.odds(1, 0), 1);
        is("odds(1, 1)", x.odds(1, 1), 1);
        is("odds(30, 0)", x.odds(30, 0), 0);
        is("odds(30, 1)", x.odds(30, 1), 1);
    }

    static void oddsNo() {
        promise(29, "NO: q, part, empty.");
        CoinLand x = plain(5, 4);
        for (int no : new int[] {MIN, -1, 0, 31, MAX}) {
            is("odds(" + no + ", 0)", x.odds(no, 0), NO);
        }
        for (int no : new int[] {MIN, -1, 2, MAX}) {
            is("odds(1, " + no + ")", x.odds(1, no), NO);
        }
        x.set(0, 1, 0);
        is("odds(1, 0), empty", x.odds(1, 0), NO);
        is("odds(1, 1), empty", x.odds(1, 1), NO);
    }

    static void mean() {
        promise(30, "MEAN.");
        CoinLand x = plain(5, 3, 8, 6);
        is("mean(0)", x.mean(0), 7);
        is("mean(1)", x.mean(1), 1);
        x.set(1, 1, 1);
        is("mean(0)", x.mean(0), 23);
        is("mean(1)", x.mean(1), 4);
    }

    static void meanNo() {
        promise(30, "NO.");
        CoinLand x = plain(5, 0);
        is("mean(0), empty", x.mean(0), NO);
        is("mean(1), empty", x.mean(1), NO);
        x.set(0, 1, 1);
        for (int no : new int[] {MIN, -1, 2, MAX}) {
            is("mean(" + no + ")", x.mean(no), NO);
        }
    }

    static void lasting() {
        promise(31, "LASTING;");
        CoinLand x = of(3, 0, 5, 0, 5, 0, 5, 0);
        is("lasting(0)", x.lasting(0), 10);
        is("lasting(1)", x.lasting(1), 5);
        x.pass(4);
        is("lasting(0) on DAY 4", x.lasting(0), 6);
        is("lasting(1) on DAY 4", x.lasting(1), 1);
        is("told(0)", x.told(0), 4);
    }

    static void lastingOn() {
        promise(31, "-5.");
        CoinLand x = of(0, 0, 5, 0, 3, 0, 1, 0);
        is("lasting(0)", x.lasting(0), -5);
        is("lasting(1)", x.lasting(1), -5);
    }

    static void lastingNone() {
        promise(31, "NONE.");
        CoinLand x = of(0, 0, 5, 0);
        for (int no : new int[] {MIN, -1, 1, 4, MAX}) {
            is("lasting(" + no + ")", x.lasting(no), NONE);
        }
    }

    static void plan() {
        promise(32, "A price comes to the PLAN: how many there are");
        CoinLand x = plain(1, 9);
        is("plan(4)", x.plan(4), 1);
        is("plan(5)", x.plan(5), 2);
        is("plan(1)", x.plan(1), 3);
        is("made(0)", x.made(0), 2);
    }

    static void planNoneThen() {
        promise(32, "(-1: none then, 0).");
        CoinLand x = plain(1, 9);
        is("plan(-1), there is none", x.plan(-1), 0);
        for (int i = 0; i < 6; i++) {
            x.plan(1);
        }
        is("plan(-1)", x.plan(-1), 0);
        is("count(5)", x.count(5), 0);
        is("made(0)", x.made(0), 0);
        is("made(1)", x.made(1), 9);
        is("the first anew", x.plan(1), 1);
    }

    static void planBad() {
        promise(32, "BAD;");
        CoinLand x = plain(1, 9);
        for (int no : new int[] {MIN, -2, 100, MAX}) {
            is("plan(" + no + ")", x.plan(no), BAD);
        }
        is("count(5)", x.count(5), 0);
    }

    static void planFull() {
        promise(32, "FULL: 6.");
        CoinLand x = plain(1, 9);
        for (int i = 1; i <= 6; i++) {
            is("plan " + i, x.plan(1), i);
        }
        is("a seventh", x.plan(1), FULL);
        is("made(0)", x.made(0), 6);
    }

    static void made() {
        promise(33, "MADE: what 0 how many, 1 RICH then.");
        CoinLand x = plain(4, 2, 1, 2);
        x.plan(5);
        x.plan(2);
        is("made(0)", x.made(0), 1);
        is("made(1)", x.made(1), 5);
    }

    static void madeNone() {
        promise(33, "NONE.");
        for (int no : new int[] {MIN, -1, 2, MAX}) {
            is("made(" + no + ")", plain(4, 2).made(no), NONE);
        }
    }

    static void book() {
        promise(34, "A row comes to BOOK: how many there are");
        CoinLand x = plain(4, 2, 5, 1);
        is("book(1, 5)", x.book(1, 5), 1);
        is("book(0, 4)", x.book(0, 4), 2);
        is("looked()", x.looked(), -5);
        is("book(1, 4)", x.book(1, 4), 3);
        is("looked()", x.looked(), 2);
    }

    static void bookNoneThen() {
        promise(34, "(coin -1: none then, 0, whatever the other is).");
        CoinLand x = plain(4, 2);
        is("book(-1), there is none", x.book(-1, 1), 0);
        for (int other : new int[] {0, 100, MIN, MAX}) {
            for (int i = 0; i < 8; i++) {
                x.book(0, 9);
            }
            is("looked() of eight", x.looked(), 0);
            is("book(-1, " + other + ")", x.book(-1, other), 0);
            is("count(6)", x.count(6), 0);
            is("looked()", x.looked(), -5);
        }
        is("the first anew", x.book(0, 4), 1);
        is("book(-1) of no COINS", new CoinLand().book(-1, 1), 0);
    }

    static void bookNone() {
        promise(34, "NONE;");
        CoinLand x = plain(4, 2);
        for (int no : new int[] {MIN, -2, 1, 4, MAX}) {
            is("book(" + no + ", 4)", x.book(no, 4), NONE);
        }
        is("count(6)", x.count(6), 0);
    }

    static void bookBad() {
        promise(34, "BAD: worth;");
        CoinLand x = plain(4, 2);
        for (int no : new int[] {MIN, -1, 0, 100, MAX}) {
            is("book(0, " + no + ")", x.book(0, no), BAD);
        }
        is("count(6)", x.count(6), 0);
    }

    static void bookFull() {
        promise(34, "FULL: 8.");
        CoinLand x = plain(4, 2);
        for (int i = 1; i <= 8; i++) {
            is("book " + i, x.book(0, 4), i);
        }
        is("a ninth", x.book(0, 5), FULL);
        is("looked()", x.looked(), -5);
    }

    static void looked() {
        promise(35, "LOOKED at;");
        CoinLand x = plain(4, 2, 5, 1);
        x.book(0, 4);
        x.book(1, 6);
        x.book(0, 5);
        is("looked()", x.looked(), 1);
    }

    static void lookedByNone() {
        promise(35, "-5.");
        CoinLand x = plain(4, 2);
        is("looked() of nothing", x.looked(), -5);
        x.book(0, 4);
        is("looked()", x.looked(), -5);
    }

    static void act() {
        promise(36, "An ACT (0 shows, 1 pays, 2 tells) of a COIN with x.");
        CoinLand x = of(0, 3, 1, 0, 0, 4, 1, 0);
        is("act(1, 0, 10)", x.act(1, 0, 10), 11);
        is("act(1, 1, 10)", x.act(1, 1, 10), 7);
        is("act(1, 2, 10)", x.act(1, 2, 10), 14);
        is("act(0, 1, 10)", x.act(0, 1, 10), 7);
    }

    static void noAct() {
        promise(36, "0, and no TRACE then: no such COIN, act.");
        int[][] calls = {
            {MIN, 0}, {-1, 0}, {1, 0}, {4, 0}, {MAX, 0}, {0, MIN}, {0, -1}, {0, 3}, {0, MAX}, {1, 3}
        };
        for (int[] call : calls) {
            CoinLand x = of(0, 3, 1, 0);
            is("act(0, 2, 10)", x.act(0, 2, 10), 14);
            is("count(8)", x.count(8), 3);
            is("act(" + call[0] + ", " + call[1] + ", 10)", x.act(call[0], call[1], 10), 0);
            is("trace(0) behind it", x.trace(0), NONE);
            is("count(8) behind it", x.count(8), 0);
        }
    }

    static void trace() {
        promise(37, "THE TRACE's i-th body.");
        CoinLand x = of(6, 3, 1, 0);
        x.act(0, 2, 10);
        int[] bodies = {31, 3, 61, 2, 1};
        for (int i = 0; i < bodies.length; i++) {
            is("trace(" + i + ")", x.trace(i), bodies[i]);
        }
    }

    static void traceNone() {
        promise(37, "NONE.");
        CoinLand x = of(0, 3, 1, 0);
        is("trace(0), no act yet", x.trace(0), NONE);
        x.act(0, 2, 10);
        x.act(0, 0, 10);
        for (int no : new int[] {MIN, -1, 1, 2, 19, 20, MAX}) {
            is("trace(" + no + ")", x.trace(no), NONE);
        }
        is("trace(0)", x.trace(0), 1);
    }

    static void as() {
        promise(38, "A COIN taken for a KIND k (0 .. 6), or one under that: its v.");
        CoinLand x = of(4, 7, 1, 0, 6, 0, 1, 0);
        is("as(0, 4)", x.as(0, 4), 7);
        is("as(0, 1)", x.as(0, 1), 7);
        is("as(0, 0)", x.as(0, 0), 7);
        is("as(1, 6)", x.as(1, 6), 0);
        is("as(1, 3)", x.as(1, 3), 0);
        is("as(1, 0)", x.as(1, 0), 0);
    }

    static void asNone() {
        promise(38, "NONE: coin, k;");
        CoinLand x = of(0, 7, 1, 0);
        for (int no : new int[] {MIN, -1, 1, 4, MAX}) {
            is("as(" + no + ", 0)", x.as(no, 0), NONE);
        }
        for (int no : new int[] {MIN, -1, 7, MAX}) {
            is("as(0, " + no + ")", x.as(0, no), NONE);
        }
    }

    static void asAnother() {
        promise(38, "-6: it is of another KIND.");
        CoinLand x = of(0, 7, 1, 0, 1, 7, 1, 0, 5, 7, 1, 0);
        is("COIN as ROUND", x.as(0, 1), -6);
        is("COIN as TOLD", x.as(0, 6), -6);
        is("ROUND as CLIPPED", x.as(1, 4), -6);
        is("ROUND as HOLED", x.as(1, 2), -6);
        is("FALSE as WORN", x.as(2, 3), -6);
        is("FALSE as TOLD", x.as(2, 6), -6);
    }

    static void image() {
        promise(39, "THE IMAGE is taken: how many COINS there are.");
        CoinLand x = new CoinLand();
        for (int coins = 0; coins <= 4; coins++) {
            is("image() of " + coins, x.image(), coins);
            x.coin(0, 0, 1, 0);
        }
        is("undo() to the latest", x.undo(), 4);
    }

    static void undo() {
        promise(40, "All is as THE IMAGE: how many COINS.");
        CoinLand x = new CoinLand();
        for (int coins = 0; coins <= 3; coins++) {
            x.image();
            x.coin(0, 0, 1, 0);
            x.ware(5);
            is("undo() to " + coins, x.undo(), coins);
            is("count(0)", x.count(0), coins);
            is("count(1)", x.count(1), 0);
            is("undo() again", x.undo(), coins);
            x.coin(0, 0, 1, 0);
        }
    }

    static void undoState() {
        promise(40, "STATE: there is none.");
        CoinLand x = plain(1, 1);
        is("undo()", x.undo(), STATE);
        is("count(0)", x.count(0), 1);
        is("image()", x.image(), 1);
        is("undo()", x.undo(), 1);
        is("undo() of another object", new CoinLand().undo(), STATE);
    }

    static void count() {
        promise(41, "0 COINS, 1 WARES, 2 LANDS, 3 BUYS, 4 SLATES, 5 of the PLAN, 6 rows of BOOK, 7 signs of THE TAPE, "
            + "8 bodies that ran in the latest act() (all, kept or not).");
        CoinLand x = plain(1, 1, 1, 1);
        x.ware(1);
        x.ware(1);
        x.ware(1);
        for (int i = 0; i < 4; i++) {
            Due.landOf(x, "top 1");
        }
        for (int i = 0; i < 8; i++) {
            x.buy(i < 5 ? 0 : 100, 0, 0, 0, 0);
            x.slate(0, 0, 0);
            x.plan(i == 0 ? 1 : 100);
            x.book(0, 1);
        }
        Due.feed(x, "1234567");
        x.act(1, 2, 0);
        int[] counts = {2, 3, 4, 5, 6, 1, 8, 7, 3};
        for (int what = 0; what < counts.length; what++) {
            is("count(" + what + ")", x.count(what), counts[what]);
        }
        x = of(4, 1, 1, 1);
        x.act(0, 2, 0);
        is("count(8)", x.count(8), 7);
    }

    static void countNone() {
        promise(41, "NONE.");
        for (int no : new int[] {MIN, -1, 9, 10, MAX}) {
            is("count(" + no + ")", rich().count(no), NONE);
        }
    }
}
