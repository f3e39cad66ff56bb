/** Counts the answers that are not the ones due, promise by promise. */
final class Due {
    private static final int PROMISES = 41;
    private final String name;
    private final boolean[] isLookedAt = new boolean[PROMISES + 1];
    private int promise = 0;
    private int looked = 0;
    private int wrong = 0;

    Due(String name) {
        this.name = name;
    }

    void promise(int number) {
        promise = number;
    }

    void is(String call, long got, long want) {
        looked++;
        isLookedAt[promise] = true;
        if (got != want) {
            wrong++;
            System.out.println("promise " + promise + ": " + call + " answered " + got + ", due is " + want);
        }
    }

    /** Ends the test: each promise of these must have been looked at. */
    void end(int first, int last) {
        for (int number = first; number <= last; number++) {
            if (!isLookedAt[number]) {
                wrong++;
                System.out.println("promise " + number + ": not looked at");
            }
        }
        System.out.println(name + ": " + looked + " answers, " + wrong + " not as due");
        if (wrong != 0) {
            System.exit(1);
        }
    }

    static CoinLand fed(String text) {
        CoinLand land = new CoinLand();
        feed(land, text);
        return land;
    }

    static void feed(CoinLand land, String text) {
        for (char sign : text.toCharArray()) {
            land.feed(sign);
        }
    }

    static int landOf(CoinLand land, String text) {
        feed(land, text);
        return land.land();
    }
}
