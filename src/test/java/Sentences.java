import java.io.IOException;
import java.lang.reflect.InvocationTargetException;
import java.lang.reflect.Method;
import java.lang.reflect.Modifier;
import java.nio.file.Files;
import java.nio.file.Path;
import java.util.ArrayList;
import java.util.Arrays;
import java.util.LinkedHashMap;
import java.util.List;
import java.util.Map;
import java.util.regex.Matcher;
import java.util.regex.Pattern;

/**
 * Tests of the document's sentences, one by one. Each static void method without parameters of a class under
 * this one is a test: it names one sentence (as it stands in the document, and where), and looks at answers.
 * What no test names is told too, so that no sentence is left out.
 */
abstract class Sentences {
    static final int NONE = CoinLand.NONE, BAD = CoinLand.BAD, STATE = CoinLand.STATE, FULL = CoinLand.FULL;
    static final long NO = CoinLand.NO;
    static final int MIN = Integer.MIN_VALUE, MAX = Integer.MAX_VALUE;

    private static final Path DOCUMENT = Path.of("../shared/DOC.md");
    private static final Map<String, String> TEXTS = new LinkedHashMap<>();
    private static final Map<String, boolean[]> NAMED = new LinkedHashMap<>();
    private static String here = "";
    private static int namedHere = 0;
    private static int lookedHere = 0;
    private static int tests = 0;
    private static int answers = 0;
    private static int wrong = 0;

    static void runAll(List<Class<? extends Sentences>> holders) throws IOException {
        readDocument();
        for (Class<? extends Sentences> holder : holders) {
            for (Method test : holder.getDeclaredMethods()) {
                if (isTest(test)) {
                    runOne(test);
                }
            }
        }
        tellUnnamed();
        System.out.println("SentencesTest: " + tests + " sentences, " + answers + " answers, " + wrong + " not as due");
        if (wrong != 0) {
            System.exit(1);
        }
    }

    private static boolean isTest(Method method) {
        return Modifier.isStatic(method.getModifiers()) && method.getParameterCount() == 0
            && method.getReturnType() == void.class && !method.isSynthetic();
    }

    private static void runOne(Method test) {
        String name = test.getDeclaringClass().getName() + "." + test.getName();
        here = name;
        namedHere = 0;
        lookedHere = 0;
        tests++;
        try {
            test.setAccessible(true);
            test.invoke(null);
        } catch (InvocationTargetException | IllegalAccessException e) {
            fail(name + " was broken off by " + (e.getCause() == null ? e : e.getCause()));
        }
        if (namedHere != 1 || lookedHere == 0) {
            fail(name + " names " + namedHere + " sentences and looks at " + lookedHere + " answers");
        }
    }

    private static void fail(String what) {
        wrong++;
        System.out.println(here + ": " + what);
    }

    // ---- what a test says

    /** The test holds these words of Terms ==== section, as far as this promise shows it. */
    static void terms(int section, int promise, String words) {
        name("Terms " + section, "Terms " + section + ", by Promise " + promise, words);
    }

    static void promise(int number, String words) {
        name("Promise " + number, "Promise " + number, words);
    }

    /** The test holds these words of what stands ahead of the Terms. */
    static void front(int promise, String words) {
        name("Front", "Front, by Promise " + promise, words);
    }

    private static void name(String section, String place, String words) {
        here = place + ", \"" + words + "\"";
        namedHere++;
        String text = TEXTS.getOrDefault(section, "");
        boolean[] named = NAMED.getOrDefault(section, new boolean[0]);
        int first = text.indexOf(words);
        if (first < 0) {
            fail("these words do not stand there");
            return;
        }
        int at = first;
        while (at >= 0 && named[at]) {
            at = text.indexOf(words, at + 1);
        }
        at = at < 0 ? first : at;
        Arrays.fill(named, at, at + words.length(), true);
    }

    static void is(String call, long got, long want) {
        lookedHere++;
        answers++;
        if (got != want) {
            fail(call + " answered " + got + ", due is " + want);
        }
    }

    static void areSame(String what, List<String> got, List<String> want) {
        lookedHere++;
        answers++;
        for (int i = 0; i < Math.max(got.size(), want.size()); i++) {
            String one = i < got.size() ? got.get(i) : "nothing";
            String other = i < want.size() ? want.get(i) : "nothing";
            if (!one.equals(other)) {
                fail(what + ": " + one + ", due is " + other);
            }
        }
    }

    // ---- the document

    private static void readDocument() throws IOException {
        String document = Files.readString(DOCUMENT);
        keep("Front", between(document, "An object is used", "##") + between(document, "public static final", "public CoinLand")
            + between(document, "The constants:", "Ahead of"));
        keep("Terms 1", between(document, "==== 1 ", "==== 2 "));
        keep("Terms 2", between(document, "==== 2 ", "==== 3 "));
        keep("Terms 3", between(document, "==== 3 ", "The constants:"));
        Matcher promises = Pattern.compile("## Promise (\\d+): [^\\n]*\\n\\s*`[^`]*`:([^\\n]*)").matcher(document);
        while (promises.find()) {
            keep("Promise " + promises.group(1), promises.group(2));
        }
    }

    private static void keep(String section, String text) {
        String plain = text.replace("```text", " ").replace("```", " ").replaceAll("==== \\d ", " ");
        TEXTS.put(section, plain.replaceAll("\\s+", " ").strip());
        NAMED.put(section, new boolean[TEXTS.get(section).length()]);
    }

    private static String between(String document, String from, String to) {
        int start = document.indexOf(from);
        int end = start < 0 ? -1 : document.indexOf(to, start + from.length());
        return start < 0 || end < 0 ? "" : document.substring(start, end);
    }

    private static void tellUnnamed() {
        here = "the document";
        for (int promise = 1; promise <= 41; promise++) {
            if (!TEXTS.containsKey("Promise " + promise)) {
                fail("it has no Promise " + promise);
            }
        }
        for (Map.Entry<String, String> section : TEXTS.entrySet()) {
            StringBuilder rest = new StringBuilder();
            boolean[] named = NAMED.get(section.getKey());
            for (int i = 0; i <= named.length; i++) {
                if (i < named.length && !named[i]) {
                    rest.append(section.getValue().charAt(i));
                } else {
                    if (rest.chars().anyMatch(Character::isLetterOrDigit)) {
                        fail("no test names these words of " + section.getKey() + ": \"" + rest + "\"");
                    }
                    rest.setLength(0);
                }
            }
        }
    }

    // ---- what tests are made of

    /** COINS, each told by KIND, v, BASE, PURSE. */
    static CoinLand of(int... columns) {
        CoinLand x = new CoinLand();
        for (int i = 0; i + 3 < columns.length; i += 4) {
            x.coin(columns[i], columns[i + 1], columns[i + 2], columns[i + 3]);
        }
        return x;
    }

    /** COINS of KIND 0, each told by its BASE and its PURSE. */
    static CoinLand plain(int... columns) {
        CoinLand x = new CoinLand();
        for (int i = 0; i + 1 < columns.length; i += 2) {
            x.coin(0, 0, columns[i], columns[i + 1]);
        }
        return x;
    }

    /** The same object, with a LAND of this text. */
    static CoinLand by(String text, CoinLand x) {
        Due.landOf(x, text);
        return x;
    }

    static void passTo(CoinLand x, int day) {
        for (int at = x.told(0); at < day; at = x.told(0)) {
            x.pass(Math.min(60, day - at));
        }
    }

    static void isLand(String text) {
        is("land() of '" + text + "'", Due.fed(text).land(), 0);
    }

    static void isFault(String text, int place) {
        is("land() of '" + text + "'", Due.fed(text).land(), -10 - place);
    }

    /** One object of everything: all KINDS' uses, a LAND, and rows of each sort; not full of anything. */
    static CoinLand rich() {
        CoinLand x = of(1, 6, 4, 3, 6, 4, 5, 2, 0, 0, 2, 4);
        x.row(1, 2, 7);
        by("dear 2 c=0;mean 1 p>3;top 6;cheat 3", x);
        x.ware(6);
        x.ware(11);
        x.pass(2);
        x.buy(9, 1, 0, 0, 0);
        x.buy(5, 0, 1, -1, 0);
        x.slate(1, 3, 15);
        x.plan(9);
        x.plan(4);
        x.book(0, 8);
        x.book(2, 1);
        Due.feed(x, "top 3");
        x.act(1, 2, 5);
        return x;
    }

    /** What there is to be asked of an object, as call and answer; under 150 calls. */
    static List<String> asked(CoinLand x) {
        List<String> all = new ArrayList<>();
        for (int what = 0; what <= 8; what++) {
            all.add("count(" + what + ") = " + x.count(what));
        }
        for (int what : new int[] {0, 1, 2, 3, 10, 11, 12, 13, 14}) {
            all.add("told(" + what + ") = " + x.told(what));
        }
        for (int coin = 0; coin < x.count(0); coin++) {
            for (int what : new int[] {0, 1, 2, 3, 4, 11, 19}) {
                all.add("of(" + coin + ", " + what + ") = " + x.of(coin, what));
            }
            all.add("range(" + coin + ", 0) = " + x.range(coin, 0));
            all.add("range(" + coin + ", 1) = " + x.range(coin, 1));
            all.add("likely(" + coin + ", 3, 0) = " + x.likely(coin, 3, 0));
            all.add("likely(" + coin + ", 3, 1) = " + x.likely(coin, 3, 1));
            all.add("alike(" + coin + ", 0) = " + x.alike(coin, 0));
            all.add("rate(" + coin + ", 0, 0) = " + x.rate(coin, 0, 0));
            all.add("rate(" + coin + ", 0, 1) = " + x.rate(coin, 0, 1));
            all.add("lasting(" + coin + ") = " + x.lasting(coin));
            all.add("as(" + coin + ", 3) = " + x.as(coin, 3));
        }
        askedOfAll(x, all);
        return all;
    }

    private static void askedOfAll(CoinLand x, List<String> all) {
        all.add("left() = " + x.left());
        all.add("known() = " + x.known());
        all.add("wrong() = " + x.wrong());
        all.add("cheated() = " + x.cheated());
        all.add("never() = " + x.never());
        all.add("looked() = " + x.looked());
        for (int what = 0; what <= 1; what++) {
            all.add("hold(" + what + ") = " + x.hold(what));
            all.add("counts(" + what + ") = " + x.counts(what));
            all.add("made(" + what + ") = " + x.made(what));
            all.add("odds(5, " + what + ") = " + x.odds(5, what));
            all.add("mean(" + what + ") = " + x.mean(what));
        }
        for (int p : new int[] {0, 7, 17, 99}) {
            all.add("pay(" + p + ", -1) = " + x.pay(p, -1));
            all.add("pay(" + p + ", 0) = " + x.pay(p, 0));
            all.add("ways(" + p + ") = " + x.ways(p));
            all.add("change(" + p + ") = " + x.change(p));
            all.add("bought(" + p + ", -1) = " + x.bought(p, -1));
            all.add("bought(" + p + ", 0) = " + x.bought(p, 0));
        }
        all.add("carry(3, -1) = " + x.carry(3, -1));
        all.add("carry(3, 0) = " + x.carry(3, 0));
        for (int i = 0; i <= 5; i++) {
            all.add("trace(" + i + ") = " + x.trace(i));
        }
    }
}
