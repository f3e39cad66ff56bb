import java.lang.reflect.InvocationTargetException;
import java.lang.reflect.Method;
import java.lang.reflect.Modifier;
import java.util.ArrayList;
import java.util.Arrays;
import java.util.Comparator;
import java.util.List;
import java.util.Set;

/**
 * Every call that is refused, and every one that only asks, with every pair of these numbers in its places, on
 * objects that are empty, in use, full, and by which no GUESS is LEFT: what can be asked of the object behind
 * them is what could be asked ahead of them, and so of THE IMAGE.
 */
public final class NothingChangedTest {
    private static final int[] NUMBERS = {
        Integer.MIN_VALUE, -10, -5, -2, -1, 0, 1, 2, 3, 4, 5, 7, 9, 10, 20, 31, 61, 100, 128, 400, Integer.MAX_VALUE
    };
    /** What stands in the other places. */
    private static final int[][] OTHERS = {{0, 0, 0, 0, 0}, {1, 1, 1, 1, 1}, {6, 9, 9, 9, 9}};
    private static final Set<String> CHANGING = Set.of(
        "feed", "land", "coin", "row", "set", "ware", "pass", "buy", "slate", "plan", "book", "undo");
    private static final Set<Long> REFUSALS = Set.of(
        (long) CoinLand.NONE, (long) CoinLand.BAD, (long) CoinLand.STATE, (long) CoinLand.FULL);
    private static final int STATES = 4;
    /** An object is used for 512 calls at most: up to 220 make it, and some 260 are asked of it behind these. */
    private static final int CALLS_AT_ONCE = 30;

    private static final List<List<String>> WITHOUT = new ArrayList<>();
    private static int looked = 0;
    private static int wrong = 0;

    public static void main(String[] args) throws ReflectiveOperationException {
        for (int state = 0; state < STATES; state++) {
            WITHOUT.add(told(made(state)));
        }
        Method[] methods = CoinLand.class.getDeclaredMethods();
        Arrays.sort(methods, Comparator.comparing(Method::getName));
        for (Method method : methods) {
            // An act changes THE TRACE, and image() THE IMAGE: they have tests of their own.
            boolean isMeant = !method.getName().equals("act") && !method.getName().equals("image");
            for (int state = 0; state < STATES && isMeant && Modifier.isPublic(method.getModifiers()); state++) {
                sweep(state, method);
            }
        }
        System.out.println("NothingChangedTest: " + looked + " calls, " + wrong + " that change what can be asked");
        if (wrong != 0) {
            System.exit(1);
        }
    }

    private static void sweep(int state, Method method) throws ReflectiveOperationException {
        boolean isChanging = CHANGING.contains(method.getName());
        List<Object[]> meant = new ArrayList<>();
        for (Object[] arguments : argumentsOf(method.getParameterCount())) {
            if (!isChanging || REFUSALS.contains(call(made(state), method, arguments))) {
                meant.add(arguments);
            }
        }
        for (int i = 0; i < meant.size(); i += CALLS_AT_ONCE) {
            look(state, method, meant.subList(i, Math.min(i + CALLS_AT_ONCE, meant.size())));
        }
    }

    private static long call(CoinLand x, Method method, Object[] arguments) throws ReflectiveOperationException {
        try {
            return ((Number) method.invoke(x, arguments)).longValue();
        } catch (InvocationTargetException e) {
            wrong++;
            System.out.println(method.getName() + Arrays.toString(arguments) + " was broken off by " + e.getCause());
            return CoinLand.NO;
        }
    }

    private static void look(int state, Method method, List<Object[]> calls) throws ReflectiveOperationException {
        CoinLand x = made(state);
        for (Object[] arguments : calls) {
            call(x, method, arguments);
            looked++;
        }
        isSame(method.getName() + Arrays.toString(calls.get(0)) + " and " + (calls.size() - 1)
            + " calls more in state " + state, told(x), WITHOUT.get(state));
    }

    /** What can be asked of an object, and of THE TAPE and THE IMAGE by what land() and undo() answer then. */
    private static List<String> told(CoinLand x) {
        List<String> all = new ArrayList<>(Sentences.asked(x));
        all.add(landed(x));
        all.add("undo() = " + x.undo());
        all.addAll(Sentences.asked(x));
        all.add(landed(x));
        return all;
    }

    private static String landed(CoinLand x) {
        return "land() = " + x.land() + ", told(1) = " + x.told(1) + ", told(2) = " + x.told(2);
    }

    private static void isSame(String where, List<String> got, List<String> want) {
        for (int i = 0; i < Math.max(got.size(), want.size()); i++) {
            String one = i < got.size() ? got.get(i) : "nothing";
            String other = i < want.size() ? want.get(i) : "nothing";
            if (!one.equals(other)) {
                wrong++;
                System.out.println("behind " + where + ": " + one + ", without them " + other);
            }
        }
    }

    private static List<Object[]> argumentsOf(int places) {
        List<Object[]> all = new ArrayList<>();
        if (places == 0) {
            all.add(new Object[0]);
        } else if (places == 1) {
            for (int number : NUMBERS) {
                all.add(new Object[] {number});
            }
        }
        for (int one = 0; one < places; one++) {
            for (int other = one + 1; other < places; other++) {
                addPairs(all, places, one, other);
            }
        }
        return all;
    }

    private static void addPairs(List<Object[]> all, int places, int one, int other) {
        for (int i = 0; i < (places == 2 ? 1 : OTHERS.length); i++) {
            for (int number : NUMBERS) {
                for (int second : NUMBERS) {
                    Object[] arguments = Arrays.stream(OTHERS[i]).limit(places).boxed().toArray();
                    arguments[one] = number;
                    arguments[other] = second;
                    all.add(arguments);
                }
            }
        }
    }

    /**
     * An object that is 0 empty (there is no IMAGE), 1 in use, 2 full, 3 such that no GUESS is LEFT and THE TAPE
     * alone is full; but for the empty one, THE IMAGE was taken a little earlier.
     */
    private static CoinLand made(int state) {
        CoinLand x = new CoinLand();
        if (state == 0) {
            return x;
        }
        x.coin(1, 6, 4, 3);
        x.coin(6, 4, 5, 2);
        x.coin(0, 0, 1, 4);
        x.row(1, 2, 7);
        Due.landOf(x, "dear 2 c=0;mean 1 p>3;cheat 3");
        addRows(x, 0);
        Due.feed(x, "top 4");
        x.image();
        Due.feed(x, ";cheat 1");
        x.pass(2);
        x.set(0, 1, 2);
        x.row(1, 2, 8);
        addRows(x, 1);
        x.act(1, 2, 5);
        if (state == 2) {
            fill(x);
        }
        if (state == 3) {
            x.buy(99, 0, 1, 0, 0);
            Due.feed(x, " ".repeat(87));
        }
        return x;
    }

    private static void addRows(CoinLand x, int i) {
        x.ware(5 + i);
        x.buy(4, 1, 0, 0, 0);
        x.slate(0, i, i);
        x.plan(1);
        x.book(0, 8);
    }

    private static void fill(CoinLand x) {
        x.coin(5, 3, 2, 9);
        for (int i = 2; i < 8; i++) {
            addRows(x, i);
        }
        x.land();
        for (int i = 0; i < 3; i++) {
            Due.landOf(x, "top 6");
        }
        Due.feed(x, "cheat 3" + " ".repeat(93));
    }
}
