import java.io.IOException;
import java.lang.reflect.Method;
import java.lang.reflect.Modifier;
import java.nio.file.Files;
import java.nio.file.Path;
import java.util.Set;
import java.util.TreeSet;
import java.util.regex.Matcher;
import java.util.regex.Pattern;

/** Does the calls of README.md's example, and looks whether its table tells every call that there is. */
public final class ReadmeTest {
    private static final Pattern CALL = Pattern.compile("x\\.(\\w+)\\(([-0-9, ]*)\\); *// (-?\\d+):");
    private static final Pattern TEXT = Pattern.compile("for \\(char sign : \"([^\"]*)\"");
    private static final Pattern TOLD = Pattern.compile("`(\\w+)\\(([a-z, ]*)\\)`");

    private static int looked = 0;
    private static int wrong = 0;

    public static void main(String[] args) throws IOException, ReflectiveOperationException {
        String readme = Files.readString(Path.of("README.md"));
        doExample(between(readme, "```java", "```"));
        lookAtTable(between(readme, "| Call |", "\n\n"));
        System.out.println("ReadmeTest: " + looked + " answers and calls, " + wrong + " not as told");
        if (wrong != 0 || looked == 0) {
            System.exit(1);
        }
    }

    private static String between(String text, String from, String to) {
        int start = text.indexOf(from);
        int end = start < 0 ? -1 : text.indexOf(to, start + from.length());
        return end < 0 ? "" : text.substring(start, end);
    }

    private static void doExample(String example) throws ReflectiveOperationException {
        CoinLand x = new CoinLand();
        for (String line : example.split("\n")) {
            Matcher text = TEXT.matcher(line);
            Matcher call = CALL.matcher(line);
            if (text.find()) {
                Due.feed(x, text.group(1));
            } else if (call.find()) {
                is(line, answer(x, call.group(1), numbers(call.group(2))), Long.parseLong(call.group(3)));
            }
        }
    }

    private static Object[] numbers(String text) {
        return Pattern.compile("-?\\d+").matcher(text).results().map(found -> Integer.valueOf(found.group())).toArray();
    }

    private static long answer(CoinLand x, String name, Object[] arguments) throws ReflectiveOperationException {
        Class<?>[] types = new Class<?>[arguments.length];
        java.util.Arrays.fill(types, int.class);
        return ((Number) CoinLand.class.getMethod(name, types).invoke(x, arguments)).longValue();
    }

    private static void is(String line, long got, long told) {
        looked++;
        if (got != told) {
            wrong++;
            System.out.println(line.strip() + " answered " + got);
        }
    }

    private static void lookAtTable(String table) {
        Set<String> told = new TreeSet<>();
        Matcher calls = TOLD.matcher(table);
        while (calls.find()) {
            int places = calls.group(2).isEmpty() ? 0 : calls.group(2).split(",").length;
            told.add(calls.group(1) + " " + places);
        }
        Set<String> due = new TreeSet<>();
        for (Method method : CoinLand.class.getDeclaredMethods()) {
            if (Modifier.isPublic(method.getModifiers())) {
                due.add(method.getName() + " " + method.getParameterCount());
            }
        }
        looked += due.size();
        if (!told.equals(due)) {
            wrong++;
            System.out.println("the table tells " + told + ", the calls are " + due);
        }
    }
}
