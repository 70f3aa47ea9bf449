import java.io.IOException;
import java.lang.reflect.InvocationTargetException;
import java.lang.reflect.Method;
import java.lang.reflect.Modifier;
import java.nio.file.Files;
import java.nio.file.Path;
import java.util.ArrayList;
import java.util.Comparator;
import java.util.List;

/** Runs the tests that bear words of the document, and looks whether the document has these words there. */
final class Sentences {
    private final Due due;
    private final String document;

    private Sentences(Due due) throws IOException {
        this.due = due;
        Path at = Path.of("../shared/DOC.md");
        document = Files.exists(at) ? oneLine(Files.readString(at)) : "";
        if (document.isEmpty()) System.out.println(at + " is not here: its words are not looked up");
    }

    /** Needs each promise of first to last (0: the terms) to have a test; ends the program. */
    static void run(Class<?> tests, Due due, int first, int last) throws IOException, IllegalAccessException {
        new Sentences(due).runAll(tests, first, last);
        due.end();
    }

    private static String oneLine(String text) {
        return text.replaceAll("\\s+", " ");
    }

    private String section(int promise) {
        int from = promise == 0 ? 0 : document.indexOf("## Promise " + promise + ":");
        int to = document.indexOf(promise == 36 ? "## Not promised" : "## Promise " + (promise + 1) + ":");
        return from < 0 || to < from ? "" : document.substring(from, to);
    }

    private void runAll(Class<?> tests, int first, int last) throws IllegalAccessException {
        List<Method> all = new ArrayList<>();
        for (Method m : tests.getDeclaredMethods()) {
            if (m.isAnnotationPresent(Says.class)) {
                all.add(m);
            } else if (m.getReturnType() == void.class && m.getParameterCount() == 0) {
                due.holds(m.getName() + " bears no words of the document", m.isSynthetic());
            }
        }
        all.sort(Comparator.comparingInt((Method m) -> promiseOf(m)).thenComparing(Method::getName));
        boolean[] met = new boolean[37];
        for (Method m : all) {
            met[promiseOf(m)] = true;
            runOne(m);
        }
        for (int p = first; p <= last; p++) due.holds("promise " + p + " has a test in " + tests.getName(), met[p]);
    }

    private static int promiseOf(Method m) {
        return m.getAnnotation(Says.class).promise();
    }

    private void runOne(Method m) throws IllegalAccessException {
        String words = m.getAnnotation(Says.class).words();
        due.within("promise " + promiseOf(m) + ", " + m.getName() + " (\"" + words + "\")");
        due.holds("the document says so", document.isEmpty() || section(promiseOf(m)).contains(oneLine(words)));
        due.holds("the test is static", Modifier.isStatic(m.getModifiers()));
        m.setAccessible(true);
        try {
            long before = due.looked();
            m.invoke(null);
            due.holds("the test looks at an answer", due.looked() > before);
        } catch (InvocationTargetException e) {
            e.getCause().printStackTrace(System.out);
            due.holds("the test ran to its end", false);
        }
        due.within("");
    }
}
