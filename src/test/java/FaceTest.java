import java.lang.reflect.Constructor;
import java.lang.reflect.Field;
import java.lang.reflect.Method;
import java.lang.reflect.Modifier;
import java.nio.file.Files;
import java.nio.file.Path;
import java.util.Arrays;
import java.util.List;
import java.util.TreeSet;

/** The face as the document prints it, and those rules of LANGUAGE.md that a look at the class can tell. */
public final class FaceTest {
    private static final String[] FACE = {"int feed(long,long,long)", "int land()", "int tell()", "int ask()",
        "int tall(int)", "int prophet(int,int)", "int futures(int)", "int saying(int,int)", "boolean strike(int)",
        "boolean come(int,int)", "int came(int,int)", "int promise(int,int)", "boolean undo()", "int word(int,int,int)",
        "int holds(int,int,int)", "int asked(int)", "int why()", "int struck()", "int making(int,int,int,int)",
        "int widest(boolean)", "int vague(int,int,int)", "int span(int,int,int)", "int first(int,int,int)",
        "int knew(int,int)", "int wish(int,int)", "int auction(int)", "int duel(int,int,int)", "int kept()",
        "int shorted()", "int fair(int,int,int)", "int year(int,int,int)", "boolean mark(int,boolean)", "int count(int)"};
    private static final String[] RULED_OUT = {"->", "::", "catch", "finally", "synchronized", "assert ", "Exact(",
        "static {", "System.current", "System.nano", "Random", "Thread", "instanceof", "package ", "String.format",
        "HashMap", "record ", "@"};
    private static int wrong = 0;

    private FaceTest() {
    }

    private static void check(boolean right, String what) {
        if (!right) {
            wrong++;
            System.out.println(what);
        }
    }

    private static String signature(Method method) {
        StringBuilder text = new StringBuilder(method.getReturnType().getName() + " " + method.getName() + "(");
        for (Class<?> type : method.getParameterTypes()) {
            text.append(text.charAt(text.length() - 1) == '(' ? "" : ",").append(type.getName());
        }
        return text.append(')').toString();
    }

    private static void members() {
        TreeSet<String> open = new TreeSet<>();
        TreeSet<String> names = new TreeSet<>();
        for (Method method : AgreeTold.class.getDeclaredMethods()) {
            if (Modifier.isPublic(method.getModifiers())) {
                open.add(signature(method));
                names.add(method.getName());
            }
        }
        check(open.equals(new TreeSet<>(Arrays.asList(FACE))), "the public methods are " + open);
        for (Method method : AgreeTold.class.getDeclaredMethods()) {
            boolean own = Modifier.isPrivate(method.getModifiers());
            check(own || Modifier.isPublic(method.getModifiers()), "seen from outside: " + method);
            check(!own || !names.contains(method.getName()), "a private method with a public one's name: " + method);
        }
        for (Field field : AgreeTold.class.getDeclaredFields()) {
            boolean none = field.getName().equals("NONE") && Modifier.isPublic(field.getModifiers());
            check(none || Modifier.isPrivate(field.getModifiers()), "seen from outside: " + field);
            boolean constant = !Modifier.isStatic(field.getModifiers()) || Modifier.isFinal(field.getModifiers());
            check(constant, "static, but not final: " + field);
        }
        Constructor<?>[] constructors = AgreeTold.class.getDeclaredConstructors();
        check(constructors.length == 1 && constructors[0].getParameterCount() == 0, "the constructor");
        check(Modifier.isFinal(AgreeTold.class.getModifiers()), "the class is not final");
    }

    private static void classes() {
        Class<?>[] inside = AgreeTold.class.getDeclaredClasses();
        check(inside.length <= 11, "classes inside: " + inside.length);
        for (Class<?> one : inside) {
            check(Modifier.isStatic(one.getModifiers()) && Modifier.isPrivate(one.getModifiers()), "not private static: " + one);
            check(one.getDeclaredFields().length <= 20, "fields of " + one + ": " + one.getDeclaredFields().length);
            for (Method method : one.getDeclaredMethods()) {
                check(method.getParameterCount() <= 7, "parameters of " + method);
            }
        }
    }

    private static void source() throws java.io.IOException {
        List<String> lines = Files.readAllLines(Path.of("src/main/java/AgreeTold.java"));
        int begun = -1;
        for (int i = 0; i < lines.size(); i++) {
            String line = lines.get(i);
            for (String word : RULED_OUT) {
                check(!line.contains(word), "line " + (i + 1) + " has " + word);
            }
            boolean method = line.matches("(    |        )[a-z]\\w*[\\[\\]\\w ]*\\(.*\\).* \\{") && !line.contains("switch (");
            if (method) {
                begun = i;
            }
            check(begun < 0 || i - begun < 60 || !line.matches("(    |        )\\}"), "a long method ends at line " + (i + 1));
            boolean imported = line.startsWith("import ");
            check(!imported || line.matches("import java\\.util\\.(Arrays|NoSuchElementException);"), line);
        }
    }

    public static void main(String[] args) throws java.io.IOException {
        members();
        classes();
        source();
        if (wrong > 0) {
            System.exit(1);
        }
        System.out.println("the face is as printed");
    }
}
