import java.util.List;

/** ==== 2, the ACTS, THE TRACE, THE IMAGE. */
final class ActSentences extends Sentences {
    /** COIN 3, of this KIND and v 9. */
    private static CoinLand fourth(int kind) {
        return of(0, 1, 1, 1, 0, 1, 1, 1, 0, 1, 1, 1, kind, 9, 1, 1);
    }

    /** COIN 3 acts with 5: the answer, and the bodies that run. */
    private static void acted(CoinLand x, int act, int answer, int... bodies) {
        String name = "act(3, " + act + ", 5) of KIND " + x.of(3, 0);
        is(name, x.act(3, act, 5), answer);
        for (int i = 0; i < bodies.length; i++) {
            is("trace(" + i + ") of " + name, x.trace(i), bodies[i]);
        }
        is("trace behind the last of " + name, x.trace(bodies.length), NONE);
        is("count(8) of " + name, x.count(8), bodies.length);
    }

    static void wrapping() {
        terms(2, 36, "ACTS of a COIN with x (ints, wrapping): shows, pays, tells; i its number.");
        CoinLand x = of(0, 9, 1, 0, 1, 3, 1, 0, 2, 5, 1, 0, 4, 4, 1, 0);
        is("COIN 0 shows MAX", x.act(0, 0, MAX), MAX);
        is("COIN 0 pays MIN", x.act(0, 1, MIN), MAX - 8);
        is("COIN 0 pays MAX", x.act(0, 1, MAX), MAX - 9);
        is("COIN 0 tells MAX", x.act(0, 2, MAX), -20);
        is("COIN 0 tells 2 to the 30th and 9", x.act(0, 2, (1 << 30) + 9), MIN);
        is("ROUND 1 shows MAX", x.act(1, 0, MAX), MAX - 1);
        is("ROUND 1 shows a third of MAX and more", x.act(1, 0, 715827883), MIN + 2);
        is("HOLED 2 pays MIN and 3", x.act(2, 1, MIN + 3), MIN);
        is("HOLED 2 shows MAX", x.act(2, 0, MAX), MIN + 1);
        // MIN less 1 is MAX, thrice MAX - 2, and 3 MIN, less 4 MAX - 3, twice -8; and 9.
        is("CLIPPED 3 tells MIN", x.act(3, 2, MIN), 1);
    }

    static void coinShows() {
        terms(2, 36, "BODIES: COIN: 1 shows: x + i.");
        acted(fourth(0), 0, 8, 1);
        is("act(0, 0, 5)", fourth(0).act(0, 0, 5), 5);
        is("act(0, 0, 0)", fourth(0).act(0, 0, 0), 0);
    }

    static void coinPays() {
        terms(2, 36, "2 pays: shows(x) - v.");
        acted(fourth(0), 1, -1, 2, 1);
    }

    static void coinTells() {
        terms(2, 36, "3 tells: pays(x) * 2.");
        acted(fourth(0), 2, -2, 3, 2, 1);
    }

    static void roundShows() {
        terms(2, 36, "ROUND: 11 shows: super.shows(x * 3).");
        acted(fourth(1), 0, 18, 11, 1);
    }

    static void holedPays() {
        terms(2, 36, "HOLED: 21 pays: -super.pays(x).");
        acted(fourth(2), 1, 1, 21, 2, 1);
    }

    static void wornTells() {
        terms(2, 36, "WORN: 31 tells: super.tells(x) ^ 7.");
        acted(fourth(3), 2, -7, 31, 3, 2, 1);
        is("act(3, 2, 9), 6 ^ 7", fourth(3).act(3, 2, 9), 1);
    }

    static void clippedTells() {
        terms(2, 36, "CLIPPED: 41 tells: super.tells(x - 1) + shows(2).");
        // 4 shows 15, pays 6, tells 12; 2 shows 9.
        acted(fourth(4), 2, 21, 41, 3, 2, 11, 1, 11, 1);
    }

    static void falseShows() {
        terms(2, 36, "FALSE: 51 shows: super.shows(x) ^ i.");
        acted(fourth(5), 0, 11, 51, 1);
        is("act(3, 0, 6), 9 ^ 3", fourth(5).act(3, 0, 6), 10);
        is("act(3, 0, -4), -1 ^ 3", fourth(5).act(3, 0, -4), -4);
    }

    static void toldPays() {
        terms(2, 36, "TOLD: 61 pays: super.pays(x) + v.");
        acted(fourth(6), 1, 8, 61, 2, 1);
    }

    static void nextKindAbove() {
        terms(2, 36, "shows(..) and so on: the body of its KIND, or, if that has none, of the next KIND above that has one;");
        acted(fourth(1), 1, 9, 2, 11, 1);
        acted(fourth(1), 2, 18, 3, 2, 11, 1);
        acted(fourth(2), 0, 8, 1);
        acted(fourth(2), 2, 2, 3, 21, 2, 1);
        acted(fourth(3), 0, 8, 1);
        acted(fourth(3), 1, -1, 2, 1);
        acted(fourth(4), 0, 18, 11, 1);
        acted(fourth(4), 1, 9, 2, 11, 1);
        acted(fourth(5), 1, -2, 21, 2, 51, 1);
        acted(fourth(5), 2, -4, 3, 21, 2, 51, 1);
        acted(fourth(6), 0, 8, 1);
        acted(fourth(6), 2, 23, 31, 3, 61, 2, 1);
    }

    static void kindAboveTheBodys() {
        terms(2, 36, "super.shows(..): so from the KIND above the body's on;");
        // From ROUND, HOLED, WORN on: none of these has the body, and COIN has.
        acted(fourth(4), 2, 21, 41, 3, 2, 11, 1, 11, 1);
        acted(fourth(5), 0, 11, 51, 1);
        acted(fourth(6), 1, 8, 61, 2, 1);
        // HOLED's and WORN's body, run by a FALSE and a TOLD one: from COIN on.
        acted(fourth(5), 1, -2, 21, 2, 51, 1);
        acted(fourth(6), 2, 23, 31, 3, 61, 2, 1);
    }

    static void fromTheLeft() {
        terms(2, 37, "what stands in a body is done from the left on.");
        CoinLand x = fourth(4);
        x.act(3, 2, 5);
        int[] bodies = {41, 3, 2, 11, 1, 11, 1};
        for (int i = 0; i < bodies.length; i++) {
            is("trace(" + i + ")", x.trace(i), bodies[i]);
        }
    }

    static void latestAct() {
        terms(2, 37, "THE TRACE: the numbers of the bodies that ran in the latest act(), as they began;");
        CoinLand x = fourth(6);
        is("trace(0) ahead of all", x.trace(0), NONE);
        acted(x, 2, 23, 31, 3, 61, 2, 1);
        acted(x, 0, 8, 1);
        acted(x, 1, 8, 61, 2, 1);
        is("pass(1)", x.pass(1), 1);
        is("trace(0) behind another call", x.trace(0), 61);
    }

    static void twentyKept() {
        terms(2, 37, "the first 20 are kept.");
        // No act runs more than 7 bodies.
        for (int kind = 0; kind <= 6; kind++) {
            for (int act = 0; act <= 2; act++) {
                CoinLand x = fourth(kind);
                x.act(3, act, 5);
                for (int i = 0; i <= 21; i++) {
                    boolean isKept = x.trace(i) != NONE;
                    is("trace(" + i + ") is there, KIND " + kind + ", act " + act, isKept ? 1 : 0,
                        i < Math.min(20, x.count(8)) ? 1 : 0);
                }
            }
        }
    }

    static void allThatThereIs() {
        terms(2, 40, "THE IMAGE: all that there is (but THE IMAGE and THE TRACE).");
        CoinLand x = rich();
        List<String> ahead = asked(x);
        x.image();
        changeAll(x);
        x.undo();
        areSame("behind undo()", asked(x), ahead);
        is("land(), THE TAPE's text", x.land(), 1);
        is("told(1), THE TAPE's text", x.told(1), 3);
        is("row(1, 2, 0)", x.row(1, 2, 0), 7);
        is("act, a new TRACE", x.act(0, 0, 5), 15);
        is("undo() again, THE IMAGE stays", x.undo(), 3);
        is("told(1) behind it", x.told(1), 6);
        is("trace(0), THE TRACE stays", x.trace(0), 11);
        is("count(8), THE TRACE stays", x.count(8), 2);
    }

    private static void changeAll(CoinLand x) {
        x.set(0, 0, 9);
        x.set(1, 1, 9);
        x.row(1, 2, 0);
        x.row(1, 3, 5);
        x.coin(2, 2, 2, 2);
        x.ware(60);
        x.land();
        x.feed('x');
        x.pass(33);
        x.buy(-1, 0, 0, 0, 0);
        x.buy(1, 1, 1, 1, 1);
        x.slate(-1, 0, 0);
        x.slate(0, 9, 9);
        x.slate(0, 9, 9);
        x.plan(-1);
        x.plan(1);
        x.plan(1);
        x.plan(1);
        x.book(-1, 0);
        x.book(3, 1);
    }
}
