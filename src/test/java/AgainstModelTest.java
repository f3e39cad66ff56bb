import java.lang.reflect.Method;
import java.util.ArrayList;
import java.util.List;
import java.util.Random;

/** Long runs of chance calls (always the same ones), each answer held against the Model's. */
public final class AgainstModelTest {
    private static final int CALLS = 512;
    private static final String[] ASKS = {
        "of", "told", "left", "range", "known", "likely", "alike", "wrong", "cheated", "hold", "pay", "ways",
        "change", "never", "carry", "rate", "bought", "counts", "odds", "mean", "lasting", "made", "looked",
        "act", "trace", "as", "count"
    };
    private static final String[] CHANGES = {
        "coin", "row", "set", "ware", "pass", "buy", "slate", "plan", "book", "image", "undo", "feed", "land"
    };
    private static final String LETTERS = "tophecadrmn 0123456789;!&|()<=>ckvbdp";

    private final Random chance;
    private final CoinLand land = new CoinLand();
    private final Model model = new Model();
    private final StringBuilder calls = new StringBuilder();
    private int done = 0;

    private AgainstModelTest(int seed) {
        chance = new Random(seed);
    }

    public static void main(String[] args) throws Exception {
        int runs = args.length > 0 ? Integer.parseInt(args[0]) : 120;
        int first = args.length > 1 ? Integer.parseInt(args[1]) : 0;
        int wrong = 0;
        for (int seed = first; seed < first + runs; seed++) {
            wrong += new AgainstModelTest(seed).isAlike() ? 0 : 1;
        }
        System.out.println("AgainstModelTest: " + (runs - wrong) + " runs alike, " + wrong + " not");
        if (wrong != 0) {
            System.exit(1);
        }
    }

    private boolean isAlike() throws Exception {
        while (done < CALLS) {
            boolean isSame = true;
            if (chance.nextInt(40) == 0) {
                isSame = feedAll(text()) && call("land");
            } else if (chance.nextInt(9) < (done < 60 ? 7 : 3)) {
                isSame = call(CHANGES[chance.nextInt(CHANGES.length)]);
            } else {
                isSame = call(ASKS[chance.nextInt(ASKS.length)]);
            }
            if (!isSame) {
                return false;
            }
        }
        return true;
    }

    private boolean feedAll(String text) throws Exception {
        for (char sign : text.toCharArray()) {
            if (!call("feed", (int) sign)) {
                return false;
            }
        }
        return true;
    }

    private boolean call(String name) throws Exception {
        return switch (name) {
            case "coin" -> call(name, of(0, 6), of(0, 9), of(1, 9), chance.nextInt(3) == 0 ? of(0, 9) : of(0, 4));
            case "of" -> call(name, coin(), chance.nextBoolean() ? 4 : of(0, 19));
            case "row" -> call(name, coin(), of(0, 3), of(0, 9));
            case "set" -> call(name, coin(), of(0, 1), of(0, 9));
            case "ware" -> call(name, chance.nextBoolean() ? of(1, 60) : of(1, 20));
            case "pass" -> call(name, chance.nextInt(3) == 0 ? of(0, 60) : of(0, 3));
            case "told" -> call(name, of(0, 15));
            case "buy" -> buy();
            case "range" -> call(name, coin(), of(0, 1));
            case "likely" -> call(name, coin(), of(1, 9), of(0, 1));
            case "alike" -> call(name, coin(), coin());
            case "hold", "counts", "made", "mean" -> call(name, of(0, 1));
            case "pay" -> call(name, chance.nextBoolean() ? of(0, 30) : of(0, 99), of(-1, 3));
            case "ways", "change" -> call(name, chance.nextBoolean() ? of(0, 30) : of(0, 99));
            case "carry" -> call(name, chance.nextBoolean() ? of(1, 8) : of(1, 30), of(-1, 3));
            case "rate" -> call(name, coin(), coin(), of(0, 1));
            case "bought" -> call(name, of(0, 99), of(-1, 4));
            case "slate" -> slate();
            case "odds" -> call(name, chance.nextBoolean() ? of(1, 9) : of(1, 30), of(0, 1));
            case "lasting" -> call(name, coin());
            case "plan" -> call(name, chance.nextInt(12) == 0 ? -1 : of(0, 25));
            case "book" -> book();
            case "act" -> call(name, coin(), of(0, 2), chance.nextInt(4) == 0 ? chance.nextInt() : of(-9, 9));
            case "trace" -> call(name, of(0, 7));
            case "as" -> call(name, coin(), of(0, 6));
            case "count" -> call(name, of(0, 8));
            case "feed" -> call(name, chance.nextInt(9) == 0 ? of(0, 127) : LETTERS.charAt(chance.nextInt(LETTERS.length())));
            case "image" -> chance.nextInt(3) > 0 || call(name, new int[0]);
            case "undo" -> chance.nextInt(4) > 0 || call(name, new int[0]);
            case "land" -> chance.nextInt(3) > 0 || call(name, new int[0]);
            default -> call(name, new int[0]);
        };
    }

    /** A number of these bounds, or now and then one that is not. */
    private int of(int least, int most) {
        return switch (chance.nextInt(150)) {
            case 0 -> least - 1;
            case 1 -> most + 1;
            case 2 -> Integer.MIN_VALUE;
            case 3 -> Integer.MAX_VALUE;
            default -> least + chance.nextInt(most - least + 1);
        };
    }

    private int coin() {
        return model.coins.isEmpty() ? of(0, 3) : of(0, model.coins.size() - 1);
    }

    /** Mostly one that is so by the BASES that there are, so that some GUESSES are left. */
    private boolean buy() throws Exception {
        if (chance.nextInt(14) == 0) {
            return call("buy", -1, of(0, 0), of(0, 0), of(0, 0), of(0, 0));
        }
        int[] told = new int[4];
        int sum = 0;
        for (Model.Coin coin : model.coins) {
            told[coin.i] = chance.nextBoolean() ? 0 : chance.nextInt(5) == 0 ? of(-4, 4) : of(-1, 2);
            sum += told[coin.i] * coin.worth();
        }
        if (chance.nextInt(30) == 0) {
            told[3] = of(-4, 4);
        }
        boolean isHonest = sum >= 0 && sum <= 99 && chance.nextInt(6) > 0;
        return call("buy", isHonest ? Math.max(0, sum - chance.nextInt(3) * model.cheat()) : of(0, 99),
            told[0], told[1], told[2], told[3]);
    }

    private boolean slate() throws Exception {
        int b = 2 + chance.nextInt(19);
        int x = chance.nextInt(b);
        int y = chance.nextInt(b);
        return chance.nextInt(8) == 0 ? call("slate", -1, of(0, 3), of(0, 3))
            : chance.nextInt(4) == 0 ? call("slate", of(0, 19), of(0, 19), of(0, 399))
            : call("slate", chance.nextInt(3) == 0 ? 0 : x, y, Math.min(399, b * x + y));
    }

    private boolean book() throws Exception {
        int coin = coin();
        boolean isSo = model.isCoin(coin) && chance.nextInt(4) > 0;
        return chance.nextInt(12) == 0 ? call("book", -1, of(1, 99))
            : call("book", coin, isSo ? model.coins.get(coin).worth() : of(1, 99));
    }

    /** A text of a LAND, mostly one without a FAULT. */
    private String text() {
        List<String> clauses = new ArrayList<>();
        int n = 1 + chance.nextInt(chance.nextInt(5) == 0 ? 12 : 4);
        for (int i = 0; i < n; i++) {
            clauses.add(clause());
        }
        StringBuilder text = new StringBuilder(String.join(";", clauses));
        if (chance.nextInt(3) == 0) {
            int at = chance.nextInt(text.length());
            switch (chance.nextInt(3)) {
                case 0 -> text.deleteCharAt(at);
                case 1 -> text.setCharAt(at, LETTERS.charAt(chance.nextInt(LETTERS.length())));
                default -> text.setLength(at);
            }
        }
        return text.toString();
    }

    private String clause() {
        int n = chance.nextInt(4) == 0 ? chance.nextInt(100) : chance.nextInt(6);
        return switch (chance.nextInt(7)) {
            case 0 -> "top " + (chance.nextInt(4) == 0 ? n : 1 + chance.nextInt(9));
            case 1 -> "cheat " + n;
            case 2, 3 -> "mean " + n + " " + e(0);
            default -> "dear " + n + " " + e(0);
        };
    }

    private String e(int depth) {
        String e = f(depth);
        for (int i = 0; i < 4 && chance.nextInt(3) == 0; i++) {
            e += (chance.nextBoolean() ? "&" : "|") + f(depth);
        }
        return e;
    }

    private String f(int depth) {
        if (depth < 6 && chance.nextInt(3) == 0) {
            return chance.nextBoolean() ? "!" + f(depth + 1) : "(" + e(depth + 1) + ")";
        }
        char what = "ckvbdp".charAt(chance.nextInt(6));
        int n = chance.nextInt(12) == 0 ? chance.nextInt(100) : chance.nextInt(what == 'c' ? 4 : what == 'k' ? 7 : 10);
        return what + "" + "<=>".charAt(chance.nextInt(3)) + n;
    }

    private boolean call(String name, int... arguments) throws Exception {
        done++;
        Class<?>[] types = new Class<?>[arguments.length];
        Object[] values = new Object[arguments.length];
        for (int i = 0; i < arguments.length; i++) {
            types[i] = int.class;
            values[i] = arguments[i];
        }
        Method due = Model.class.getDeclaredMethod(name, types);
        long got = ((Number) CoinLand.class.getMethod(name, types).invoke(land, values)).longValue();
        long want = ((Number) due.invoke(model, values)).longValue();
        calls.append(name).append(java.util.Arrays.toString(arguments)).append(" = ").append(got).append('\n');
        if (got != want) {
            System.out.println(calls + "due is " + want);
        }
        return got == want;
    }
}
