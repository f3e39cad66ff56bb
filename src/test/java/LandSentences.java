import java.util.Arrays;

/** ==== 1, the LANDS: THE TAPE, CLAUSES, E, FAULTS, TOP, CHEAT. */
final class LandSentences extends Sentences {
    private static final String TEN_CLAUSES = "top 1;top 2;top 3;top 4;top 5;top 6;top 8;top 9;top 1;top 7";

    /** By "dear 50" and this E, these COINS alone are worth 50 more; it is DAY 13. */
    private static void holds(String e, int... coins) {
        CoinLand x = of(0, 1, 4, 3, 2, 5, 6, 7, 4, 0, 9, 0, 6, 9, 2, 9);
        x.pass(13);
        int[] ahead = {x.of(0, 4), x.of(1, 4), x.of(2, 4), x.of(3, 4)};
        is("land() of '" + e + "'", Due.landOf(x, "dear 50 " + e), 0);
        for (int coin = 0; coin < 4; coin++) {
            boolean isDearer = Arrays.binarySearch(coins, coin) >= 0;
            is("of(" + coin + ", 4) by '" + e + "'", x.of(coin, 4), ahead[coin] + (isDearer ? 50 : 0));
        }
    }

    static void hundredBytes() {
        terms(1, 3, "A LAND is read from THE TAPE (bytes, 100 at most):");
        String hundred = "dear 10 c<99" + "&c<9".repeat(21) + "&c=0";
        is("bytes", hundred.length(), 100);
        CoinLand x = plain(5, 1, 5, 1);
        for (int i = 0; i < 100; i++) {
            is("feed, byte " + (i + 1), x.feed(hundred.charAt(i)), i + 1);
        }
        is("feed, byte 101", x.feed('9'), FULL);
        is("land()", x.land(), 0);
        is("of(0, 4)", x.of(0, 4), 15);
        is("of(1, 4)", x.of(1, 4), 5);
    }

    static void tenClauses() {
        terms(1, 3, "CLAUSES, 10 at most, with ; between:");
        CoinLand x = new CoinLand();
        is("land() of ten", Due.landOf(x, TEN_CLAUSES), 0);
        is("told(1) by the tenth", x.told(1), 7);
        isFault(TEN_CLAUSES + ";", 59);
        isFault(TEN_CLAUSES + ";top 2", 59);
        isFault(";top 1", 0);
        isFault("top 1;", 6);
        isFault("top 1;;top 2", 6);
        isFault("top 1,top 2", 5);
        isFault("top 1top 2", 5);
        isLand("top 1;top 2");
    }

    static void noClause() {
        terms(1, 3, "top n; cheat n; dear n E; mean n E");
        isLand("top 1");
        isLand("cheat 1");
        isLand("dear 1 c=1");
        isLand("mean 1 c=1");
        isLand("top 1;cheat 1;dear 1 c=1;mean 1 c=1");
        isFault("", 0);
        isFault("top 1 c=1", 5);
        isFault("cheat 1 c=1", 7);
        isFault("dear 1", 6);
        isFault("dear 1;top 1", 6);
        isFault("mean 1", 6);
        isFault("mean 1;top 1", 6);
        isFault("dear c=1", 5);
        isFault("Top 1", 0);
        isFault("tap 1", 1);
        isFault("chest 1", 3);
        isFault("deal 1 c=1", 3);
        isFault("mead 1 c=1", 3);
        for (int sign = 0; sign <= 127; sign++) {
            CoinLand x = new CoinLand();
            x.feed(sign);
            boolean isFirst = "tcdm".indexOf(sign) >= 0;
            is("land() of the byte " + sign, x.land(), isFirst ? -11 : -10);
        }
    }

    static void oneBlank() {
        terms(1, 3, "(one blank ahead of each part behind the word;");
        isFault("top1", 3);
        isFault("top  1", 4);
        isFault(" top 1", 0);
        isFault("top 1 ", 5);
        isFault("top 1 ;top 1", 5);
        isFault("top 1; top 1", 6);
        isFault("cheat1", 5);
        isFault("dear1 c=1", 4);
        isFault("dear 1c=1", 6);
        isFault("dear  1 c=1", 5);
        isFault("dear 1  c=1", 7);
        isFault("mean 1c=1", 6);
        isFault("mean 1  c=1", 7);
        isFault("dear 1 c =1", 8);
        isFault("dear 1 c= 1", 9);
        isFault("dear 1 c=1 &c=1", 10);
        isFault("dear 1 c=1& c=1", 11);
        isFault("dear 1 ! c=1", 8);
        isFault("dear 1 ( c=1)", 8);
        isFault("dear 1 (c=1 )", 11);
        isFault("top\t1", 3);
    }

    static void digits() {
        terms(1, 3, "n 1 or 2 digits,");
        isFault("top ", 4);
        isFault("top x", 4);
        isFault("top -1", 4);
        isFault("top /", 4);
        isFault("top :", 4);
        isFault("top 123", 6);
        isFault("cheat 100", 8);
        isFault("dear  c=1", 5);
        isFault("dear 100 c=1", 7);
        isFault("mean 999 c=1", 7);
        for (int n = 0; n <= 99; n++) {
            is("told(2) by 'cheat " + n + "'", by("cheat " + n, new CoinLand()).told(2), n);
        }
        is("of(0, 4) by 'dear 99 c=0'", by("dear 99 c=0", plain(5, 1)).of(0, 4), 104);
        is("of(0, 4) by 'mean 10 c=0'", by("dear 99 c=0;mean 10 c=0", plain(5, 1)).of(0, 4), 94);
    }

    static void noNought() {
        terms(1, 3, "no 0 ahead of another).");
        isFault("top 05", 5);
        isFault("top 00", 5);
        isFault("cheat 01", 7);
        isFault("dear 01 c=1", 6);
        isFault("mean 00 c=1", 6);
        isLand("top 0");
        isLand("cheat 10");
        isLand("dear 0 c=1;mean 20 c=1");
    }

    static void either() {
        terms(1, 3, "E: T, or T|E.");
        holds("c=1", 1);
        holds("c=0|c=2", 0, 2);
        holds("c=0|c=1|c=3", 0, 1, 3);
        isFault("dear 1 ", 7);
        isFault("dear 1 |c=1", 7);
        isFault("dear 1 c=1|", 11);
        isFault("dear 1 c=1||c=2", 11);
        isFault("dear 1 c=1|;top 1", 11);
    }

    static void both() {
        terms(1, 3, "T: F, or F&T.");
        holds("c<2&c>0", 1);
        holds("c<3&c>0&v=0", 2);
        holds("c=0|c<3&c>1", 0, 2);
        holds("c<3&c>1|c=0", 0, 2);
        holds("c=0|c=1&c=2", 0);
        holds("c=1&c=2|c=3&p=9|c=0&p=9", 3);
        isFault("dear 1 &c=1", 7);
        isFault("dear 1 c=1&", 11);
        isFault("dear 1 c=1&&c=1", 11);
        isFault("dear 1 c=1&|c=1", 11);
    }

    static void turned() {
        terms(1, 3, "F: !F, (E), or a TEST:");
        holds("!c=1", 0, 2, 3);
        holds("!!c=1", 1);
        holds("!!!c=1", 0, 2, 3);
        holds("!c=1&c<2", 0);
        holds("c<2&!c=1", 0);
        holds("!c=1|c=1", 0, 1, 2, 3);
        holds("!(c=1|c=2)", 0, 3);
        holds("!(c=1|c=2)&c<2", 0);
        holds("!(!c=1)", 1);
        holds("!(!(c=1|c=2)|c=2)", 1);
        holds("(c=1)", 1);
        holds("(c=0|c=1)&c>0", 1);
        holds("c>0&(c=0|c=1)", 1);
        holds("c=3|(c=0|c=1)&(c=1|c=2)", 1, 3);
        isFault("dear 1 ()", 8);
        isFault("dear 1 !", 8);
        isFault("dear 1 !)", 8);
        isFault("dear 1 !&c=1", 8);
        isFault("dear 1 c=1!", 10);
        isFault("dear 1 c=1(c=1)", 10);
        isFault("dear 1 (c=1)(c=1)", 12);
        isFault("dear 1 c=1)", 10);
        isFault("dear 1 (c=1))", 12);
        isFault("dear 1 (c=1;top 1)", 11);
        isFault("dear 1 !(c=1", 12);
    }

    static void letters() {
        terms(1, 3, "c or k or v or b or d or p, one of < = >,");
        for (int sign = 0; sign <= 127; sign++) {
            boolean isLetter = "ckvbdp".indexOf(sign) >= 0;
            boolean isOpening = sign == '!' || sign == '(';
            is("land() of 'dear 1 ?=1', ? being " + sign, Due.fed("dear 1 " + (char) sign + "=1").land(),
                isLetter ? 0 : isOpening ? -18 : -17);
            boolean isComparison = sign == '<' || sign == '=' || sign == '>';
            is("land() of 'dear 1 c?1', ? being " + sign, Due.fed("dear 1 c" + (char) sign + "1").land(),
                isComparison ? 0 : -18);
        }
        isFault("dear 1 c", 8);
        isFault("dear 1 c1", 8);
        isFault("dear 1 cc=1", 8);
        isFault("dear 1 c<=1", 9);
        isFault("dear 1 1=c", 7);
        holds("c<2", 0, 1);
        holds("c=2", 2);
        holds("c>2", 3);
    }

    static void testNumbers() {
        terms(1, 3, "a number likewise:");
        isFault("dear 1 c=", 9);
        isFault("dear 1 c=x", 9);
        isFault("dear 1 c=-1", 9);
        isFault("dear 1 c=/", 9);
        isFault("dear 1 c=:", 9);
        isFault("dear 1 c=01", 10);
        isFault("dear 1 c=00", 10);
        isFault("dear 1 c=123", 11);
        isFault("dear 1 c=100", 11);
        isLand("dear 1 c=0");
        isLand("dear 1 c=10");
        holds("p<99", 0, 1, 2, 3);
        holds("p>99");
        holds("p=10");
        holds("p<10", 0, 1, 2, 3);
    }

    static void coinOfATest() {
        terms(1, 5, "of a COIN c its number,");
        holds("c<0");
        holds("c=0", 0);
        holds("c<1", 0);
        holds("c=3", 3);
        holds("c>2", 3);
        holds("c>3");
        holds("c=4");
    }

    static void kindOfATest() {
        terms(1, 5, "k its KIND,");
        holds("k=0", 0);
        holds("k<2", 0);
        holds("k=2", 1);
        holds("k=4", 2);
        holds("k>4", 3);
        holds("k=6", 3);
        holds("k>6");
        holds("k=1|k=3|k=5");
    }

    static void vOfATest() {
        terms(1, 5, "v its v,");
        holds("v=0", 2);
        holds("v<1", 2);
        holds("v=1", 0);
        holds("v=5", 1);
        holds("v>5", 3);
        holds("v=9", 3);
        holds("v>9");
    }

    static void baseOfATest() {
        terms(1, 5, "b its BASE,");
        holds("b<2");
        holds("b=2", 3);
        holds("b<4", 3);
        holds("b=4", 0);
        holds("b=6", 1);
        holds("b>6", 2);
        holds("b=9", 2);
        holds("b>9");
    }

    static void dayOfATest() {
        terms(1, 5, "d DAY modulo 10,");
        holds("d=3", 0, 1, 2, 3);
        holds("d>3");
        holds("d<3");
        holds("d=13");
        CoinLand x = by("dear 10 d=0;dear 20 d=9;dear 30 d>9", plain(1, 0));
        int[] worths = {11, 1, 1, 1, 1, 1, 1, 1, 1, 21, 11, 1};
        for (int day = 0; day < worths.length; day++) {
            is("of(0, 4) on DAY " + day, x.of(0, 4), worths[day]);
            x.pass(1);
        }
        passTo(x, 9999);
        is("of(0, 4) on DAY 9999", x.of(0, 4), 21);
    }

    static void purseOfATest() {
        terms(1, 5, "p its PURSE.");
        holds("p=0", 2);
        holds("p<1", 2);
        holds("p=3", 0);
        holds("p>7", 3);
        holds("p=9", 3);
        holds("p>9");
        CoinLand x = by("dear 10 p=4", plain(1, 3));
        is("of(0, 4) by three in PURSE", x.of(0, 4), 1);
        x.set(0, 1, 4);
        is("of(0, 4) by four in PURSE", x.of(0, 4), 11);
    }

    static void fiveOpen() {
        terms(1, 3, "At most 5 of ! and ( are open");
        isLand("dear 1 !!!!!c=1");
        isLand("dear 1 (((((c=1)))))");
        isLand("dear 1 !(!(!c=1))");
        isLand("dear 1 (!(!(c=1)))");
        isFault("dear 1 !!!!!!c=1", 12);
        isFault("dear 1 ((((((c=1))))))", 12);
        isFault("dear 1 !(!(!(c=1)))", 12);
        isFault("dear 1 (!(!(!c=1)))", 12);
        isFault("dear 1 (((((!c=1)))))", 12);
        isFault("mean 1 !!!!!(c=1)", 12);
        holds("!!!!!c=1", 0, 2, 3);
        holds("(((((c=1)))))", 1);
        holds("((((c=1|c=2)&c>1)|c=0)&!c=0)", 2);
    }

    static void openTillClosed() {
        terms(1, 3, "(a ( till its ) ,");
        isLand("dear 1 (((((c=1)))))&(((((c=1)))))");
        isLand("dear 1 ((((c=1&(c=2)))))");
        isFault("dear 1 (((((c=1&(c=2))))))", 16);
        isLand("dear 1 (((((c=1))|((c=2)))))");
        isFault("dear 1 (((((c=1))|(((c=2))))))", 20);
        isLand("dear 1 (((((c=1)))));mean 1 (((((c=1)))))");
        isFault("dear 1 (((((c=1))))", 19);
        isFault("dear 1 (((((c=1))))))", 20);
        CoinLand x = Due.fed("dear 1 (((((c=1");
        is("land() of five that stay open", x.land(), -25);
        is("land() of five behind these", Due.landOf(x, "dear 1 (((((c=1)))))"), 0);
    }

    static void openTillItsEnd() {
        terms(1, 3, "a ! till its F ends).");
        isLand("dear 1 !!!!!c=1&!!!!!c=2|!!!!!c=3");
        isLand("dear 1 !!!!(c=1)&!!!!!c=1");
        isLand("dear 1 !(c=1&!!!c=2)");
        isFault("dear 1 !(c=1&!!!!c=2)", 16);
        isLand("dear 1 !(!!c=1&!!!c=2)");
        isFault("dear 1 !(!!c=1&!!!!c=2)", 18);
        isLand("dear 1 (!!(c=1)&!!!!c=2)");
        isFault("dear 1 (!!(c=1)&!!!!!c=2)", 20);
        isLand("dear 1 !!!!!c=1;dear 1 !!!!!c=1");
        CoinLand x = Due.fed("dear 1 !!!!!c");
        is("land() of five that stay open", x.land(), -23);
        is("land() of five behind these", Due.landOf(x, "dear 1 !!!!!c=1"), 0);
    }

    static void faults() {
        terms(1, 3, "FAULT: the place of the first byte with which no LAND can go on");
        isFault("x", 0);
        isFault("xtop 1", 0);
        isFault("topp 1", 3);
        isFault("top 1x", 5);
        isFault("top 9;tox 1", 8);
        isFault("dear 1 c=1&k?3", 12);
        isFault("dear 12 (c=1|b<3&v=9];top 1", 20);
        isFault("mean 5 (c=1|(k<2&v>3);top 1", 21);
        isFault("cheat 1;cheat 2;heat 3;?", 16);
        String land = "dear 12 !(c=1|k<2)&v>3;top 7";
        for (int place = 0; place < land.length(); place++) {
            isFault(land.substring(0, place) + "?" + land.substring(place), place);
            isFault(land.substring(0, place) + "?", place);
            isFault(land.substring(0, place) + (char) 0 + "?", place);
        }
    }

    static void endsTooEarly() {
        terms(1, 3, "(the size, if it ends too early).");
        String land = "dear 12 !(c=1|k<2)&v>3;top 7;cheat 10";
        for (int size = 0; size < land.length(); size++) {
            String text = land.substring(0, size);
            if (size == 18 || size == 22 || size == 28 || size == 36) {
                isLand(text);
            } else {
                isFault(text, size);
            }
        }
        isLand(land);
        isFault("dear 10 c<99" + "&c<9".repeat(20) + "&c<88&c", 99);
        isFault("dear 10 c<99" + "&c<9".repeat(20) + "&c<88&c<", 100);
    }

    static void fiveLands() {
        terms(1, 3, "LANDS are numbered from 0 on, 5 at most;");
        CoinLand x = new CoinLand();
        for (int number = 0; number < 5; number++) {
            is("land(), a FAULT", Due.landOf(x, "top"), -13);
            is("land " + number, Due.landOf(x, "top " + (number + 2)), number);
        }
        is("a sixth", Due.landOf(x, "top 9"), FULL);
        is("count(2)", x.count(2), 5);
        is("told(1)", x.told(1), 6);
    }

    static void newestHolds() {
        terms(1, 5, "the newest one holds;");
        CoinLand x = by("dear 3 c=0;top 4;cheat 2", plain(5, 1, 5, 1));
        is("of(0, 4) by the first", x.of(0, 4), 8);
        by("dear 6 c=1", x);
        is("of(0, 4) by the second", x.of(0, 4), 5);
        is("of(1, 4) by the second", x.of(1, 4), 11);
        is("told(1) by the second", x.told(1), 9);
        is("told(2) by the second", x.told(2), 0);
    }

    static void withoutOne() {
        terms(1, 5, "without one there are no CLAUSES.");
        CoinLand x = plain(5, 1);
        is("told(1)", x.told(1), 9);
        is("told(2)", x.told(2), 0);
        is("of(0, 4)", x.of(0, 4), 5);
        is("land(), a FAULT", Due.landOf(x, "dear 9 c=0;top"), -24);
        is("of(0, 4) behind it", x.of(0, 4), 5);
        x.image();
        by("dear 9 c=0;top 3;cheat 4", x);
        x.undo();
        is("of(0, 4) behind undo()", x.of(0, 4), 5);
        is("told(1) behind undo()", x.told(1), 9);
        is("told(2) behind undo()", x.told(2), 0);
    }

    static void topWithout() {
        terms(1, 10, "TOP (9 without;");
        is("told(1) without a LAND", new CoinLand().told(1), 9);
        CoinLand x = by("cheat 3;dear 4 c=0;mean 5 c=0", plain(1, 0));
        is("told(1) without top", x.told(1), 9);
        is("left()", x.left(), 9);
    }

    static void topTooSmall() {
        terms(1, 10, "1 if less,");
        CoinLand x = by("top 0", plain(1, 0));
        is("told(1) by 'top 0'", x.told(1), 1);
        is("left() by 'top 0'", x.left(), 1);
        is("told(1) by 'top 1'", by("top 1", x).told(1), 1);
        is("told(1) by 'top 2'", by("top 2", x).told(1), 2);
    }

    static void topTooLarge() {
        terms(1, 10, "9 if more),");
        CoinLand x = by("top 10", plain(1, 0));
        is("told(1) by 'top 10'", x.told(1), 9);
        is("left() by 'top 10'", x.left(), 9);
        is("told(1) by 'top 99'", by("top 99", x).told(1), 9);
        is("told(1) by 'top 9'", by("top 9", x).told(1), 9);
        is("told(1) by 'top 8'", by("top 8", x).told(1), 8);
    }

    static void cheatWithout() {
        terms(1, 10, "CHEAT (0 without):");
        is("told(2) without a LAND", new CoinLand().told(2), 0);
        is("told(2) without cheat", by("top 4;dear 5 c=0", new CoinLand()).told(2), 0);
        is("told(2) by 'cheat 0'", by("cheat 0", new CoinLand()).told(2), 0);
        is("told(2) by 'cheat 99'", by("cheat 99", new CoinLand()).told(2), 99);
    }

    static void lastOne() {
        terms(1, 10, "the last n.");
        CoinLand x = by("top 3;cheat 7;top 5;cheat 2;dear 8 c=0", new CoinLand());
        is("told(1)", x.told(1), 5);
        is("told(2)", x.told(2), 2);
        by("top 5;cheat 9;top 0;cheat 0", x);
        is("told(1), the last is 0", x.told(1), 1);
        is("told(2), the last is 0", x.told(2), 0);
        by("top 50;top 4;cheat 1;cheat 99", x);
        is("told(1), one ahead is 50", x.told(1), 4);
        is("told(2), the last is 99", x.told(2), 99);
    }
}
