import java.lang.reflect.InvocationTargetException;
import java.lang.reflect.Method;
import java.util.ArrayList;
import java.util.Arrays;
import java.util.Comparator;
import java.util.List;

/**
 * Every call with every pair of edge numbers in its places, on objects that are empty, in use, full, and by
 * which no GUESS is LEFT: each answer, and what there is of each thing then, held against the Model's.
 */
public final class EdgeSweepTest {
    private static final int[] EDGES = {
        Integer.MIN_VALUE, -1000, -11, -6, -5, -4, -3, -2, -1, 0, 1, 2, 3, 4, 5, 6, 7, 8, 9, 10, 11, 14, 15, 19, 20, 21,
        30, 31, 59, 60, 61, 98, 99, 100, 101, 127, 128, 398, 399, 400, 9999, 10000, Integer.MAX_VALUE
    };
    /** What stands in the other places: refused nowhere, and so that what is swept is looked at. */
    private static final int[][] OTHERS = {{0, 0, 0, 0, 0}, {1, 1, 1, 1, 1}, {3, 2, 2, 2, 2}, {5, 1, -1, 0, 0}};
    /** An object is used for 512 calls at most; a sweep takes up to 11 for each call swept. */
    private static final int SWEPT_CALLS = 25;

    private static CoinLand land;
    private static Model model;
    private static int swept = 0;
    private static int wrong = 0;

    public static void main(String[] args) throws ReflectiveOperationException {
        Method[] methods = CoinLand.class.getDeclaredMethods();
        Arrays.sort(methods, Comparator.comparing(Method::getName));
        for (int state = 0; state < 4; state++) {
            for (Method method : methods) {
                if (java.lang.reflect.Modifier.isPublic(method.getModifiers())) {
                    sweep(state, method);
                }
            }
        }
        System.out.println("EdgeSweepTest: " + swept + " calls, " + wrong + " not as the Model's");
        if (wrong != 0) {
            System.exit(1);
        }
    }

    private static void sweep(int state, Method method) throws ReflectiveOperationException {
        Method due = Model.class.getDeclaredMethod(method.getName(), method.getParameterTypes());
        int done = 0;
        for (int[] arguments : argumentsOf(method.getParameterCount())) {
            if (done % SWEPT_CALLS == 0) {
                make(state);
            }
            done++;
            compare(state, method, due, arguments);
        }
    }

    private static List<int[]> argumentsOf(int places) {
        List<int[]> all = new ArrayList<>();
        if (places == 0) {
            all.add(new int[0]);
        } else if (places == 1) {
            for (int edge : EDGES) {
                all.add(new int[] {edge});
            }
        }
        for (int one = 0; one < places; one++) {
            for (int other = one + 1; other < places; other++) {
                addPairs(all, places, one, other);
            }
        }
        return all;
    }

    private static void addPairs(List<int[]> all, int places, int one, int other) {
        for (int i = 0; i < (places == 2 ? 1 : OTHERS.length); i++) {
            for (int edge : EDGES) {
                for (int second : EDGES) {
                    int[] arguments = Arrays.copyOf(OTHERS[i], places);
                    arguments[one] = edge;
                    arguments[other] = second;
                    all.add(arguments);
                }
            }
        }
    }

    private static void compare(int state, Method method, Method due, int[] arguments) throws ReflectiveOperationException {
        Object[] values = Arrays.stream(arguments).boxed().toArray();
        String call = method.getName() + Arrays.toString(arguments) + " in state " + state;
        long want = ((Number) due.invoke(model, values)).longValue();
        swept++;
        try {
            is(call, ((Number) method.invoke(land, values)).longValue(), want);
        } catch (InvocationTargetException e) {
            wrong++;
            System.out.println(call + " was broken off by " + e.getCause());
            return;
        }
        for (int what = 0; what <= 8; what++) {
            is("count(" + what + ") behind " + call, land.count(what), model.count(what));
        }
        is("undo() behind " + call, land.undo(), model.undo());
    }

    private static void is(String call, long got, long want) {
        if (got != want) {
            wrong++;
            System.out.println(call + " answered " + got + ", the Model " + want);
        }
    }

    /** An object that is 0 empty, 1 in use, 2 full, 3 such that no GUESS is LEFT; of which there is THE IMAGE. */
    private static void make(int state) {
        land = new CoinLand();
        model = new Model();
        if (state > 0) {
            coin(1, 6, 4, 3);
            coin(6, 4, 5, 2);
            coin(0, 0, 1, 4);
            land.row(1, 2, 7);
            model.row(1, 2, 7);
            text("dear 2 c=0;mean 1 p>3;top 6;cheat 3");
            for (int i = 0; i < (state == 2 ? 8 : 2); i++) {
                rowsOf(i);
            }
        }
        if (state == 2) {
            coin(5, 3, 2, 9);
            for (int i = 0; i < 4; i++) {
                text("top 6");
            }
            feed("dear 9 c<4;".repeat(10));
        }
        if (state == 3) {
            land.buy(99, 0, 1, 0, 0);
            model.buy(99, 0, 1, 0, 0);
        }
        land.act(1, 2, 5);
        model.act(1, 2, 5);
        land.image();
        model.image();
    }

    private static void coin(int kind, int v, int base, int purse) {
        land.coin(kind, v, base, purse);
        model.coin(kind, v, base, purse);
    }

    private static void rowsOf(int i) {
        land.ware(5 + i);
        model.ware(5 + i);
        land.buy(4, 1, 0, 0, 0);
        model.buy(4, 1, 0, 0, 0);
        land.slate(0, i, i);
        model.slate(0, i, i);
        land.plan(3 + i);
        model.plan(3 + i);
        land.book(0, 8);
        model.book(0, 8);
    }

    private static void feed(String text) {
        for (char sign : text.toCharArray()) {
            land.feed(sign);
            model.feed(sign);
        }
    }

    private static void text(String text) {
        feed(text);
        land.land();
        model.land();
    }
}
