import java.io.IOException;
import java.lang.reflect.InvocationTargetException;
import java.lang.reflect.Method;
import java.lang.reflect.Modifier;
import java.nio.file.Files;
import java.nio.file.Path;
import java.util.List;
import java.util.stream.Collectors;
import java.util.stream.Stream;

/** README.md's example answers as it says there, and its tables name every call and every test. */
public final class ReadmeTest {
    private static final String BEGIN = "AgreeTold told = new AgreeTold();";
    private static final String FEED = "feed(told, \"";
    private static final String CALL = "told.";
    private static int wrong = 0;
    private static int looked = 0;

    private ReadmeTest() {
    }

    private static void check(boolean right, String what) {
        looked++;
        if (!right) {
            wrong++;
            System.out.println("README.md: " + what);
        }
    }

    private static Method methodOf(String name) {
        for (Method method : AgreeTold.class.getDeclaredMethods()) {
            if (Modifier.isPublic(method.getModifiers()) && method.getName().equals(name)) {
                return method;
            }
        }
        throw new IllegalArgumentException("no call " + name);
    }

    private static Object argument(Class<?> type, String text) {
        if (type == boolean.class) {
            return Boolean.valueOf(text);
        }
        return type == long.class ? (Object) Long.valueOf(text) : (Object) Integer.valueOf(text);
    }

    /** The answer of a line such as: told.prophet(0, 1); */
    private static String answerOf(AgreeTold told, String line) throws IllegalAccessException, InvocationTargetException {
        int open = line.indexOf('(');
        Method method = methodOf(line.substring(CALL.length(), open));
        String inside = line.substring(open + 1, line.indexOf(')'));
        String[] texts = inside.isEmpty() ? new String[0] : inside.split(", ");
        Object[] arguments = new Object[texts.length];
        for (int i = 0; i < texts.length; i++) {
            arguments[i] = argument(method.getParameterTypes()[i], texts[i]);
        }
        return String.valueOf(method.invoke(told, arguments));
    }

    private static void example(List<String> lines) throws IllegalAccessException, InvocationTargetException {
        int from = lines.indexOf(BEGIN);
        check(from >= 0, "the example is missing");
        AgreeTold told = new AgreeTold();
        for (int i = from + 1; from >= 0 && !lines.get(i).startsWith("```"); i++) {
            String line = lines.get(i);
            if (line.startsWith(FEED)) {
                Texts.feed(told, line.substring(FEED.length(), line.lastIndexOf('"')));
                continue;
            }
            String due = line.substring(line.indexOf("// ") + 3, line.indexOf(": "));
            String got = answerOf(told, line);
            check(got.equals(due), line + " but the answer is " + got);
        }
    }

    private static void calls(String text) {
        for (Method method : AgreeTold.class.getDeclaredMethods()) {
            if (Modifier.isPublic(method.getModifiers())) {
                check(text.contains("`" + method.getName() + "("), "the call " + method.getName() + " is missing");
            }
        }
    }

    private static void tests(String text) throws IOException {
        try (Stream<Path> files = Files.list(Path.of("src/test/java"))) {
            for (Path file : files.collect(Collectors.toList())) {
                String name = file.getFileName().toString().replace(".java", "");
                check(!name.endsWith("Test") || text.contains("`" + name + "`"), "the test " + name + " is missing");
            }
        }
        check(text.contains(".ci/run"), "how the tests are run is missing");
    }

    public static void main(String[] args) throws IOException, IllegalAccessException, InvocationTargetException {
        String text = Files.readString(Path.of("README.md"));
        example(text.lines().collect(Collectors.toList()));
        calls(text);
        tests(text);
        if (wrong > 0) {
            System.exit(1);
        }
        System.out.println(looked + " things in README.md are as it says");
    }
}
