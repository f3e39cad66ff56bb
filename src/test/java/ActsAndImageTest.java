/** Promises 36 to 41: acts, the image. */
public final class ActsAndImageTest {
    private static final Due due = new Due("ActsAndImageTest");

    public static void main(String[] args) {
        acts();
        noActs();
        wrapping();
        takenFor();
        images();
        allInTheImage();
        counts();
        due.end(36, 41);
    }

    /** COINS of KINDS a to d; COIN i has v 3 + i. */
    private static CoinLand of(int... kinds) {
        CoinLand x = new CoinLand();
        for (int i = 0; i < kinds.length; i++) {
            x.coin(kinds[i], 3 + i, 1, 0);
        }
        return x;
    }

    private static void acted(CoinLand x, int coin, int act, int answer, int... bodies) {
        due.promise(36);
        due.is("act(" + coin + ", " + act + ", 5)", x.act(coin, act, 5), answer);
        due.promise(37);
        for (int i = 0; i < bodies.length; i++) {
            due.is("trace(" + i + ") of act(" + coin + ", " + act + ", 5)", x.trace(i), bodies[i]);
        }
        due.is("trace behind the last", x.trace(bodies.length), CoinLand.NONE);
        due.is("trace(-1)", x.trace(-1), CoinLand.NONE);
        due.promise(41);
        due.is("count(8)", x.count(8), bodies.length);
    }

    private static void acts() {
        CoinLand x = of(0, 1, 2, 3);
        // COIN 0, v 3
        acted(x, 0, 0, 5, 1);
        acted(x, 0, 1, 2, 2, 1);
        acted(x, 0, 2, 4, 3, 2, 1);
        // ROUND 1, v 4: shows 15 + 1
        acted(x, 1, 0, 16, 11, 1);
        acted(x, 1, 1, 12, 2, 11, 1);
        acted(x, 1, 2, 24, 3, 2, 11, 1);
        // HOLED 2, v 5: pays -(7 - 5)
        acted(x, 2, 0, 7, 1);
        acted(x, 2, 1, -2, 21, 2, 1);
        acted(x, 2, 2, -4, 3, 21, 2, 1);
        // WORN 3, v 6: tells 4 ^ 7
        acted(x, 3, 0, 8, 1);
        acted(x, 3, 1, 2, 2, 1);
        acted(x, 3, 2, 3, 31, 3, 2, 1);
        x = of(0, 4, 5, 6);
        // CLIPPED 1, v 4: tells (12 + 1 - 4) * 2 + (6 + 1)
        acted(x, 1, 0, 16, 11, 1);
        acted(x, 1, 1, 12, 2, 11, 1);
        acted(x, 1, 2, 25, 41, 3, 2, 11, 1, 11, 1);
        // FALSE 2, v 5: shows 7 ^ 2; pays -(5 - 5)
        acted(x, 2, 0, 5, 51, 1);
        acted(x, 2, 1, 0, 21, 2, 51, 1);
        acted(x, 2, 2, 0, 3, 21, 2, 51, 1);
        // TOLD 3, v 6: pays 8 - 6 + 6; tells 16 ^ 7
        acted(x, 3, 0, 8, 1);
        acted(x, 3, 1, 8, 61, 2, 1);
        acted(x, 3, 2, 23, 31, 3, 61, 2, 1);
    }

    private static void noActs() {
        int[][] calls = {{-1, 0}, {1, 0}, {0, -1}, {0, 3}, {Integer.MIN_VALUE, 0}, {0, Integer.MAX_VALUE}};
        for (int[] call : calls) {
            CoinLand x = of(0);
            x.act(0, 2, 5);
            due.promise(36);
            due.is("act, none", x.act(call[0], call[1], 5), 0);
            due.promise(37);
            due.is("no TRACE then", x.trace(0), CoinLand.NONE);
            due.promise(41);
            due.is("no bodies", x.count(8), 0);
        }
    }

    private static void wrapping() {
        due.promise(36);
        CoinLand x = of(0, 1, 2, 4);
        due.is("MAX + 1", x.act(1, 0, 715827883), -2147483646);
        due.is("-MIN", x.act(2, 1, Integer.MIN_VALUE + 3), Integer.MIN_VALUE);
        due.is("twice", x.act(0, 2, Integer.MAX_VALUE), -8);
        due.is("MIN - 1", x.act(3, 2, Integer.MIN_VALUE), -12 + 9);
    }

    private static void takenFor() {
        due.promise(38);
        int[][] kindsAbove = {{0}, {0, 1}, {0, 2}, {0, 3}, {0, 1, 4}, {0, 2, 5}, {0, 3, 6}};
        for (int kind = 0; kind <= 6; kind++) {
            CoinLand x = new CoinLand();
            x.coin(kind, 8, 1, 0);
            for (int k = 0; k <= 6; k++) {
                int wanted = -6;
                for (int above : kindsAbove[kind]) {
                    wanted = above == k ? 8 : wanted;
                }
                due.is("KIND " + kind + " as(0, " + k + ")", x.as(0, k), wanted);
            }
            due.is("as(0, -1)", x.as(0, -1), CoinLand.NONE);
            due.is("as(0, 7)", x.as(0, 7), CoinLand.NONE);
            due.is("as(-1, 0)", x.as(-1, 0), CoinLand.NONE);
            due.is("as(1, 0)", x.as(1, 0), CoinLand.NONE);
        }
    }

    private static void images() {
        CoinLand x = new CoinLand();
        due.promise(40);
        due.is("there is none", x.undo(), CoinLand.STATE);
        due.promise(39);
        due.is("image() of nothing", x.image(), 0);
        x.coin(0, 0, 5, 3);
        x.coin(0, 0, 5, 3);
        due.promise(40);
        due.is("undo() to nothing", x.undo(), 0);
        due.is("left", x.left(), 1);
        x.coin(1, 3, 5, 3);
        due.promise(39);
        due.is("image()", x.image(), 1);
        x.coin(0, 0, 5, 3);
        x.set(0, 0, 7);
        due.promise(40);
        due.is("undo()", x.undo(), 1);
        due.is("BASE", x.of(0, 2), 5);
        x.set(0, 0, 8);
        due.is("THE IMAGE stays", x.undo(), 1);
        due.is("BASE", x.of(0, 2), 5);
        x.act(0, 0, 1);
        x.undo();
        due.is("THE TRACE stays", x.trace(1), 1);
        due.is("THE TRACE stays", x.count(8), 2);
    }

    private static void allInTheImage() {
        due.promise(40);
        CoinLand x = new CoinLand();
        x.coin(6, 1, 2, 3);
        x.row(0, 2, 5);
        x.ware(9);
        Due.landOf(x, "dear 3 c=0;top 4;cheat 2");
        x.buy(9, 1, 0, 0, 0);
        x.slate(1, 2, 9);
        x.plan(5);
        x.book(0, 10);
        x.pass(2);
        Due.feed(x, "top 8");
        due.promise(39);
        due.is("image()", x.image(), 1);
        int[] before = asked(x);
        x.set(0, 0, 9);
        x.set(0, 1, 9);
        x.row(0, 2, 0);
        x.row(0, 1, 8);
        x.coin(0, 0, 1, 1);
        x.ware(1);
        x.land();
        Due.landOf(x, "mean 1 c=0");
        Due.feed(x, "cheat 33;mean 3 c<9");
        x.buy(-1, 0, 0, 0, 0);
        x.buy(1, 1, 1, 0, 0);
        x.buy(2, 1, 0, 0, 0);
        x.slate(-1, 0, 0);
        x.slate(3, 3, 30);
        x.slate(3, 3, 30);
        x.plan(-1);
        x.plan(60);
        x.plan(60);
        x.book(-1, 0);
        x.book(1, 9);
        x.book(1, 9);
        x.pass(33);
        due.promise(40);
        due.is("undo()", x.undo(), 1);
        int[] behind = asked(x);
        for (int i = 0; i < before.length; i++) {
            due.is("ask " + i + " behind undo()", behind[i], before[i]);
        }
        due.is("THE TAPE's text", x.land(), 1);
        due.is("THE TAPE's text", x.told(1), 8);
        x.undo();
        for (int i = 0; i < 4; i++) {
            due.is("its LANDS go on", Due.landOf(x, i == 0 ? "" : "top 1"), i + 1);
        }
        due.is("its LANDS go on", x.land(), CoinLand.FULL);
        x = new CoinLand();
        x.image();
        x.coin(6, 1, 2, 3);
        x.row(0, 0, 9);
        x.undo();
        x.coin(6, 1, 2, 3);
        due.is("a new ROW is 0 at first", x.of(0, 4), 2);
    }

    private static int[] asked(CoinLand x) {
        return new int[] {
            x.of(0, 0), x.of(0, 1), x.of(0, 2), x.of(0, 3), x.of(0, 4), x.told(0), x.told(1), x.told(2), x.told(3),
            x.told(10), x.told(11), x.left(), x.range(0, 0), x.known(), x.cheated(), x.pay(10, 0), x.counts(0),
            x.counts(1), x.made(0), x.made(1), x.looked(), x.lasting(0), x.count(0), x.count(1), x.count(2),
            x.count(3), x.count(4), x.count(5), x.count(6), x.count(7)
        };
    }

    private static void counts() {
        due.promise(41);
        CoinLand x = new CoinLand();
        x.coin(0, 0, 1, 1);
        Due.landOf(x, "top 1");
        Due.landOf(x, "top 2");
        for (int i = 0; i < 5; i++) {
            x.ware(1);
        }
        for (int i = 0; i < 3; i++) {
            x.buy(0, 0, 0, 0, 0);
        }
        for (int i = 0; i < 4; i++) {
            x.slate(0, 0, 0);
        }
        for (int i = 0; i < 6; i++) {
            x.plan(0);
            x.plan(0);
        }
        for (int i = 0; i < 8; i++) {
            x.book(0, 1);
        }
        Due.feed(x, "1234567");
        x.act(0, 1, 0);
        int[] counts = {1, 5, 2, 3, 4, 6, 8, 7, 2};
        for (int what = 0; what < counts.length; what++) {
            due.is("count(" + what + ")", x.count(what), counts[what]);
        }
        due.is("count(-1)", x.count(-1), CoinLand.NONE);
        due.is("count(9)", x.count(9), CoinLand.NONE);
        due.is("count(MAX)", x.count(Integer.MAX_VALUE), CoinLand.NONE);
    }
}
