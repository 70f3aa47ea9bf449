import java.io.IOException;
import java.lang.reflect.Field;
import java.lang.reflect.Method;
import java.lang.reflect.Modifier;
import java.nio.file.Files;
import java.nio.file.Path;
import java.util.Arrays;
import java.util.Set;
import java.util.TreeSet;
import java.util.regex.Matcher;
import java.util.regex.Pattern;
import java.util.stream.Collectors;

/** The public face of the document, and the rules of the language that can be seen from the text. */
public final class FaceTest {
    private static final Due due = new Due();

    private static final String FACE = """
        int courses(int)
        int tune(int, int)
        int set(int, int)
        int note(int, int, int)
        int gone(int)
        int clear()
        int read(int)
        int info(int, int)
        int course(int, int)
        int least()
        int fault()
        int mend()
        int lay(int, int)
        int wrong()
        int cost()
        int chord(int, int)
        int without(int)
        int key(int)
        int easiest(int)
        int keep(int)
        int go(int)
        int differ(int)
        int text(int)
        int type(int)
        int wipe()
        int flaw()
        int back()
        int sheet(int, int, int)
        int lose(int)
        int put(int, int, int, int)
        long get(int, int)
        int copy(int, int, int, int, int)
        int write(int)
        int count(int)
        long digest()
        """;

    private static String head(Method m) {
        return m.getReturnType() + " " + m.getName() + "("
            + Arrays.stream(m.getParameterTypes()).map(Class::toString).collect(Collectors.joining(", ")) + ")";
    }

    private static void methods() {
        Set<String> want = new TreeSet<>(Arrays.asList(FACE.split("\n")));
        Set<String> got = new TreeSet<>();
        Set<String> publicNames = new TreeSet<>();
        for (Method m : LuteTabs.class.getDeclaredMethods()) {
            if (!Modifier.isPrivate(m.getModifiers())) {
                got.add(head(m));
                publicNames.add(m.getName());
                due.holds(m + " is public alone", m.getModifiers() == Modifier.PUBLIC);
            }
        }
        due.holds("the methods of the document, no others: " + got, got.equals(want));
        for (Class<?> c : LuteTabs.class.getDeclaredClasses()) {
            due.holds(c + " is static", Modifier.isStatic(c.getModifiers()));
            due.holds(c + " is not public", !Modifier.isPublic(c.getModifiers()));
            for (Method m : c.getDeclaredMethods()) {
                due.holds(m + " has a name of its own", !publicNames.contains(m.getName()));
            }
        }
        for (Method m : LuteTabs.class.getDeclaredMethods()) {
            boolean isPrivate = Modifier.isPrivate(m.getModifiers());
            due.holds(m + " has a name of its own", !isPrivate || !publicNames.contains(m.getName()));
        }
    }

    private static void fields() throws IllegalAccessException {
        Set<String> got = new TreeSet<>();
        for (Field f : LuteTabs.class.getDeclaredFields()) {
            if (!Modifier.isPrivate(f.getModifiers())) {
                due.holds(f + " is a constant", f.getModifiers() == (Modifier.PUBLIC | Modifier.STATIC | Modifier.FINAL));
                got.add(f.getName() + f.getInt(null));
            }
        }
        due.holds("the constants of the document: " + got, got.equals(Set.of("NONE-1", "BAD-2", "NOT-3", "FULL-4")));
        due.holds("the class is public and final", LuteTabs.class.getModifiers() == (Modifier.PUBLIC | Modifier.FINAL));
        due.due("constructors", LuteTabs.class.getDeclaredConstructors().length, 1);
        due.holds("it is public", Modifier.isPublic(LuteTabs.class.getDeclaredConstructors()[0].getModifiers()));
        due.due("its parameters", LuteTabs.class.getDeclaredConstructors()[0].getParameterCount(), 0);
    }

    private static void staticFields() {
        Set<Class<?>> may = Set.of(int.class, long.class, boolean.class, char.class, String.class,
            int[].class, long[].class, char[].class, byte[].class);
        for (Class<?> c : LuteTabs.class.getDeclaredClasses()) {
            for (Field f : c.getDeclaredFields()) {
                if (Modifier.isStatic(f.getModifiers())) {
                    due.holds(f + " is a constant", Modifier.isFinal(f.getModifiers()) && may.contains(f.getType()));
                }
            }
        }
    }

    /** What the language's rule 11 counts, as far as it can be seen from outside. */
    private static void limits() {
        Class<?>[] inside = LuteTabs.class.getDeclaredClasses();
        due.holds("twelve classes at most", inside.length + 1 <= 12);
        for (int i = -1; i < inside.length; i++) {
            Class<?> c = i < 0 ? LuteTabs.class : inside[i];
            long fields = Arrays.stream(c.getDeclaredFields()).filter(f -> !Modifier.isStatic(f.getModifiers())).count();
            due.holds(c + " has twenty fields at most", fields <= 20);
            for (Method m : c.getDeclaredMethods()) {
                due.holds(m + " takes seven parameters at most", m.getParameterCount() <= 7);
            }
        }
    }

    /** A method begins with a line that ends in "{" and ends with "}" at the same depth. */
    private static void methodLengths() throws IOException {
        String[] lines = Files.readString(Path.of("src/main/java/LuteTabs.java")).split("\n");
        Pattern head = Pattern.compile("^( {4}| {8})(?! )(?!.*\\bclass\\b).*\\) \\{$");
        int methods = 0;
        for (int i = 0; i < lines.length; i++) {
            Matcher m = head.matcher(lines[i]);
            if (!m.matches() || lines[i].matches(" *(if|for|while|switch|}).*")) continue;
            methods++;
            int end = i;
            while (end < lines.length && !lines[end].equals(m.group(1) + "}")) end++;
            due.holds(lines[i].strip() + " is short", end - i + 1 <= 60);
        }
        due.holds("methods were found", methods > 60);
    }

    private static String withoutComments(String text) {
        return text.replaceAll("(?s)/\\*.*?\\*/", "").replaceAll("//[^\n]*", "");
    }

    private static void words() throws IOException {
        String text = withoutComments(Files.readString(Path.of("src/main/java/LuteTabs.java")));
        for (String word : "throw throws try catch finally synchronized assert package Object Exception System.out"
            .split(" ")) {
            due.holds("no " + word, !Pattern.compile("\\b" + Pattern.quote(word) + "\\b").matcher(text).find());
        }
        Set<String> library = Set.of("Arrays.fill", "System.arraycopy", "Math.min", "Math.max", "Math.abs", "Integer.bitCount");
        Matcher calls = Pattern.compile("\\b(Arrays|System|Math|Integer|Long|String)\\.\\w+").matcher(text);
        while (calls.find()) {
            due.holds(calls.group() + " is of the library that the language leaves", library.contains(calls.group()));
        }
        due.holds("no lambda", !text.contains("->"));
        due.holds("no method reference", !text.contains("::"));
        Matcher imports = Pattern.compile("import ([^;]*);").matcher(text);
        while (imports.find()) {
            due.holds("import " + imports.group(1), imports.group(1).equals("java.util.Arrays"));
        }
    }

    public static void main(String[] args) throws Exception {
        methods();
        fields();
        staticFields();
        limits();
        methodLengths();
        words();
        due.end();
    }
}
