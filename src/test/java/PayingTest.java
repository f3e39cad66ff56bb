/** Promises 20 to 26: paying, carrying, rates, wares. */
public final class PayingTest {
    private static final Due due = new Due("PayingTest");

    public static void main(String[] args) {
        paying();
        payingFewest();
        ways();
        change();
        never();
        carrying();
        rates();
        buyingWares();
        byPurse();
        due.end(20, 26);
    }

    /** A plain COIN for each BASE and PURSE. */
    private static CoinLand with(int... basesAndPurses) {
        CoinLand x = new CoinLand();
        for (int i = 0; i + 1 < basesAndPurses.length; i += 2) {
            x.coin(0, 0, basesAndPurses[i], basesAndPurses[i + 1]);
        }
        return x;
    }

    private static void paid(CoinLand x, int p, int... answers) {
        for (int k = -1; k < 4; k++) {
            due.is("pay(" + p + ", " + k + ")", x.pay(p, k), answers[k + 1]);
        }
    }

    private static void paying() {
        due.promise(20);
        CoinLand x = with(1, 9, 3, 9, 4, 9, 9, 9);
        paid(x, 0, 0, 0, 0, 0, 0);
        paid(x, 1, 1, 1, 0, 0, 0);
        paid(x, 6, 2, 0, 2, 0, 0);
        paid(x, 12, 2, 0, 1, 0, 1);
        // 1 4 9 alone: 4 4 4 and 3 3 9 are no 14.
        paid(x, 14, 3, 1, 0, 1, 1);
        // 4 4 ahead of 1 3 4, as it is fewer.
        paid(x, 8, 2, 0, 0, 2, 0);
        // Nine 9 at most; 18 more: 3 3 4 4 4.
        paid(x, 99, 14, 0, 2, 3, 9);
    }

    private static void payingFewest() {
        due.promise(20);
        CoinLand x = with(5, 4, 2, 9, 3, 9);
        // 5 5 and 2 2 3 3 are 10; two are fewest.
        paid(x, 10, 2, 2, 0, 0, -5);
        // 2 2 3, 5 2: the fewest is 5 2.
        paid(x, 7, 2, 1, 1, 0, -5);
        // 2 2 and 1 3: two 2.
        paid(x, 4, 2, 0, 2, 0, -5);
        // 6: 3 3.
        paid(x, 6, 2, 0, 0, 2, -5);
        // 9: 3 3 3 ahead of 5 2 2, as the lesser number of COIN 0 comes first.
        paid(x, 9, 3, 0, 0, 3, -5);
        paid(x, 1, -5, -5, -5, -5, -5);
        paid(x, 66, -5, -5, -5, -5, -5);
        paid(x, 65, 22, 4, 9, 9, -5);
        x.set(0, 1, 1);
        // 10 with one 5: 2 3 5.
        paid(x, 10, 3, 1, 1, 1, -5);
        due.is("pay(0, -2)", x.pay(0, -2), CoinLand.NONE);
        due.is("pay(0, 4)", x.pay(0, 4), CoinLand.NONE);
        due.is("pay(-1, 4)", x.pay(-1, 4), CoinLand.NONE);
        due.is("pay(-1, 0)", x.pay(-1, 0), CoinLand.BAD);
        due.is("pay(100, 3)", x.pay(100, 3), CoinLand.BAD);
        due.is("pay(MIN, -1)", x.pay(Integer.MIN_VALUE, -1), CoinLand.BAD);
    }

    private static void ways() {
        due.promise(21);
        CoinLand x = with(1, 9, 2, 9, 5, 2);
        due.is("ways(0)", x.ways(0), 1);
        due.is("ways(4)", x.ways(4), 3);
        due.is("ways(10)", x.ways(10), 9);
        due.is("ways(37)", x.ways(37), 1);
        due.is("ways(38)", x.ways(38), 0);
        due.is("ways(99)", x.ways(99), 0);
        due.is("ways(-1)", x.ways(-1), CoinLand.BAD);
        due.is("ways(100)", x.ways(100), CoinLand.BAD);
        x = with(1, 9, 1, 9, 1, 9, 1, 9);
        due.is("ways(18) of four alike", x.ways(18), 670);
    }

    private static void change() {
        due.promise(22);
        CoinLand x = with(9, 2, 4, 1);
        due.is("change(0)", x.change(0), 0);
        due.is("change(9)", x.change(9), 1);
        due.is("9 goes out, 4 comes back", x.change(5), 2);
        due.is("9 9 go out, 4 4 4 come back", x.change(6), 5);
        due.is("four 4 do not come back", x.change(2), -5);
        due.is("22", x.change(22), 3);
        due.is("23", x.change(23), -5);
        due.is("change(-1)", x.change(-1), CoinLand.BAD);
        due.is("change(100)", x.change(100), CoinLand.BAD);
        x = with(5, 1, 3, 0);
        due.is("of an empty PURSE it may come back", x.change(2), 2);
        due.is("5 for 3", x.change(3), -5);
        x = with(7, 9, 8, 9);
        due.is("out or back, the fewest", x.change(1), 2);
        due.is("7 7 7 go out, 8 comes back", x.change(13), 4);
    }

    private static void never() {
        due.promise(23);
        due.is("nothing", new CoinLand().never(), 1);
        due.is("no 1", with(2, 9).never(), 1);
        due.is("1 to 9", with(1, 9).never(), 10);
        due.is("1 to 4, 6", with(1, 1, 2, 1, 6, 1).never(), 4);
        due.is("1 to 18", with(1, 9, 9, 1).never(), 19);
        CoinLand x = with(1, 9, 9, 9);
        due.is("1 to 90", x.never(), 91);
        x.coin(0, 0, 9, 1);
        due.is("1 to 99", x.never(), -5);
        x.set(0, 1, 8);
        due.is("98 at most", x.never(), 99);
        due.is("1 to 108", with(1, 9, 9, 9, 9, 2).never(), -5);
        due.is("no change", with(3, 9, 2, 9).never(), 1);
    }

    private static void carried(CoinLand x, int n, int... answers) {
        for (int k = -1; k < 4; k++) {
            due.is("carry(" + n + ", " + k + ")", x.carry(n, k), answers[k + 1]);
        }
    }

    private static void carrying() {
        due.promise(24);
        carried(new CoinLand(), 1, -5, -5, -5, -5, -5);
        CoinLand x = with(1, 0, 2, 0, 5, 0);
        carried(x, 1, 1, 1, 0, 0, -5);
        carried(x, 2, 2, 1, 1, 0, -5);
        carried(x, 4, 3, 1, 2, 0, -5);
        carried(x, 5, 3, 1, 2, 0, -5);
        carried(x, 6, 4, 1, 2, 1, -5);
        carried(x, 10, 4, 1, 2, 1, -5);
        carried(x, 30, 8, 1, 2, 5, -5);
        x = with(1, 9);
        carried(x, 6, 6, 6, -5, -5, -5);
        carried(x, 7, -5, -5, -5, -5, -5);
        carried(with(2, 9, 3, 9), 1, -5, -5, -5, -5, -5);
        // 1 2 is fewer than 1 1 1.
        carried(with(2, 1, 4, 1, 1, 1), 3, 2, 1, 0, 1, -5);
        // For 4, three: 1 1 2 as 0 0 1 2 comes ahead of 1 2 2.
        carried(with(3, 1, 2, 1, 1, 1), 4, 3, 0, 1, 2, -5);
        due.is("carry(0, -1)", x.carry(0, -1), CoinLand.BAD);
        due.is("carry(31, -1)", x.carry(31, -1), CoinLand.BAD);
        due.is("carry(31, 3)", x.carry(31, 3), CoinLand.BAD);
        due.is("carry(0, -2)", x.carry(0, -2), CoinLand.NONE);
        due.is("carry(31, 4)", x.carry(31, 4), CoinLand.NONE);
        x = with(1, 0, 9, 0);
        Due.landOf(x, "dear 60 c=1");
        due.is("one worth 69 is of no use", x.carry(6, -1), 6);
        due.is("one worth 69 is of no use", x.carry(7, -1), -5);
    }

    private static void rates() {
        due.promise(25);
        CoinLand x = with(6, 0, 4, 0, 9, 0);
        due.is("rate(0, 1, 0)", x.rate(0, 1, 0), 3);
        due.is("rate(0, 1, 1)", x.rate(0, 1, 1), 2);
        due.is("rate(1, 0, 0)", x.rate(1, 0, 0), 2);
        due.is("rate(1, 2, 1)", x.rate(1, 2, 1), 9);
        due.is("rate(2, 2, 0)", x.rate(2, 2, 0), 1);
        due.is("rate(2, 2, 1)", x.rate(2, 2, 1), 1);
        int[][] nos = {{-1, 0, 0}, {3, 0, 0}, {0, -1, 0}, {0, 3, 0}, {0, 1, -1}, {0, 1, 2}};
        for (int[] no : nos) {
            due.is("rate, NO", x.rate(no[0], no[1], no[2]), CoinLand.NO);
        }
    }

    private static void buyingWares() {
        due.promise(26);
        CoinLand x = new CoinLand();
        due.is("none for 0", x.bought(0, -1), 1);
        due.is("no such WARE", x.bought(0, 0), -5);
        due.is("none", x.bought(5, -1), 0);
        x.ware(5);
        x.ware(10);
        x.ware(15);
        x.ware(10);
        // 5 5 10, 5 5 10', 5 15, 10 10, 10 10', 10' 10', 5 5 5 5.
        due.is("bought(20, -1)", x.bought(20, -1), 7);
        int[] first = {4, 0, 0, 0};
        // 5 5 10 15 is ahead of 5 5 15 10', 5 10 10 10 and so on.
        int[] firstOf35 = {2, 1, 1, 0};
        for (int k = 0; k < 4; k++) {
            due.is("bought(20, " + k + ")", x.bought(20, k), first[k]);
            due.is("bought(35, " + k + ")", x.bought(35, k), firstOf35[k]);
            due.is("bought(0, " + k + ")", x.bought(0, k), 0);
            due.is("bought(21, " + k + ")", x.bought(21, k), -5);
        }
        due.is("bought(20, 4)", x.bought(20, 4), -5);
        due.is("four at most", x.bought(60, -1), 1);
        due.is("four at most", x.bought(65, -1), 0);
        due.is("bought(60, 2)", x.bought(60, 2), 4);
        due.is("bought(20, -2)", x.bought(20, -2), CoinLand.NONE);
        due.is("bought(100, 5)", x.bought(100, 5), CoinLand.NONE);
        due.is("bought(100, -1)", x.bought(100, -1), CoinLand.BAD);
        due.is("bought(-1, 0)", x.bought(-1, 0), CoinLand.BAD);
        x.ware(33);
        due.is("99", x.bought(99, 4), 3);
        due.is("99", x.bought(99, -1), 1);
    }

    private static void byPurse() {
        due.promise(20);
        CoinLand x = with(2, 3, 1, 1);
        Due.landOf(x, "dear 4 p=3");
        due.is("WORTH by what is in PURSE", x.pay(18, 0), 3);
        due.is("not by what is paid", x.pay(6, 0), 1);
        due.is("not as BASE", x.pay(2, -1), -5);
        due.promise(21);
        due.is("ways(6)", x.ways(6), 1);
        due.promise(24);
        due.is("carry by PURSE", x.carry(6, -1), 6);
    }
}
