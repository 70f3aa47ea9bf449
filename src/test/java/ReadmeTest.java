import java.lang.reflect.Method;
import java.nio.file.Files;
import java.nio.file.Path;
import java.util.Arrays;
import java.util.Set;
import java.util.TreeSet;
import java.util.regex.Matcher;
import java.util.regex.Pattern;

/** The calls that README.md shows, one by one on one object, answer what it says behind them. */
public final class ReadmeTest {
    private static final Due due = new Due();
    private static final Pattern CALL = Pattern.compile("lute\\.(\\w+)\\(([^)]*)\\); +// (-?\\d+)(:.*)?");

    private static Object number(String told) {
        if (told.equals("LuteTabs.NONE")) return LuteTabs.NONE;
        return told.matches("'.'") ? told.charAt(1) : Integer.parseInt(told);
    }

    private static long answer(LuteTabs lute, String name, Object[] given) throws ReflectiveOperationException {
        Class<?>[] ints = new Class<?>[given.length];
        Arrays.fill(ints, int.class);
        Method method = LuteTabs.class.getMethod(name, ints);
        return ((Number) method.invoke(lute, given)).longValue();
    }

    /** The lines between ```java and ```. */
    private static String[] shown(String readme) {
        Matcher blocks = Pattern.compile("(?s)```java\n(.*?)```").matcher(readme);
        StringBuilder all = new StringBuilder();
        while (blocks.find()) all.append(blocks.group(1));
        return all.toString().split("\n");
    }

    public static void main(String[] args) throws Exception {
        String readme = Files.readString(Path.of("README.md"));
        LuteTabs lute = new LuteTabs();
        Set<String> called = new TreeSet<>();
        for (String line : shown(readme)) {
            if (line.equals("LuteTabs lute = new LuteTabs();")) continue;
            Matcher call = CALL.matcher(line);
            due.holds("a call and its answer: " + line, call.matches());
            if (!call.matches()) continue;
            String given = call.group(2);
            Object[] numbers = given.isEmpty() ? new Object[0]
                : Arrays.stream(given.split(", ")).map(ReadmeTest::number).toArray();
            due.due(line, answer(lute, call.group(1), numbers), Long.parseLong(call.group(3)));
            called.add(call.group(1));
        }
        due.holds("calls were found: " + called, called.size() > 20);
        due.holds("README says how to run the tests", readme.contains(".ci/run"));
        due.end();
    }
}
