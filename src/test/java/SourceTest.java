import java.io.IOException;
import java.lang.reflect.Constructor;
import java.lang.reflect.Field;
import java.lang.reflect.Method;
import java.lang.reflect.Modifier;
import java.nio.file.Files;
import java.nio.file.Path;
import java.util.Arrays;
import java.util.List;
import java.util.Set;
import java.util.TreeSet;
import java.util.regex.Pattern;

/** The public face of the document, and those rules of LANGUAGE.md that can be seen by a plain look. */
public final class SourceTest {
    private static final List<String> FACE = List.of(
            "int feed(int,int,int,int,int)", "int pattern(int,int,int) IllegalArgumentException",
            "int fault(int) NoSuchElementException", "int size(int)",
            "int crossing(int,int) NoSuchElementException", "int about(int,int) NoSuchElementException",
            "int factor(int,int) NoSuchElementException", "boolean alike(int,int) NoSuchElementException",
            "int untwined(int) NoSuchElementException", "int goes(int,int) NoSuchElementException",
            "int twine(int,int,int) NoSuchElementException", "int use(int,int) NoSuchElementException",
            "int bundle(int,int,int)", "int left(int) NoSuchElementException", "int score(int,int,int)",
            "int scored(int,int) NoSuchElementException", "int hat(int,int)",
            "int sewn(int,int) NoSuchElementException", "int count(int) NoSuchElementException");

    private static final List<String> NOT_ALLOWED = List.of("->", "::", "Exact", "\\bcatch\\b", "\\btry\\b",
            "\\bfinally\\b", "\\bsynchronized\\b", "\\bassert\\b", "static \\{", "\\bprotected\\b", "\\bMap\\b",
            "\\bSystem\\.(?!arraycopy)", "\\bdouble\\b", "\\bfloat\\b", "\\bThread\\b", "\\bhashCode\\b",
            "\\btoString\\b", "\\bException\\b", "\\bthrow (?!new (IllegalArgument|NoSuchElement)Exception\\()");

    private SourceTest() {
    }

    public static void main(String[] args) throws IOException {
        checkFace();
        checkClasses();
        checkSource(args.length > 0 ? args[0] : "src/main/java/PlaitBench.java");
        Check.end("SourceTest");
    }

    private static void checkFace() {
        Check.same("the class is public and final", Modifier.PUBLIC | Modifier.FINAL, PlaitBench.class.getModifiers());
        Set<String> open = new TreeSet<>();
        Set<String> hidden = new TreeSet<>();
        for (Method method : PlaitBench.class.getDeclaredMethods()) {
            if (!Modifier.isPrivate(method.getModifiers())) {
                Check.same(method.getName() + " is public and nothing else", Modifier.PUBLIC, method.getModifiers());
                open.add(told(method));
            }
        }
        Check.holds("the methods of the document alone: " + open, open.equals(new TreeSet<>(FACE)));
        Constructor<?>[] constructors = PlaitBench.class.getDeclaredConstructors();
        Check.same("one constructor", 1, constructors.length);
        Check.holds("a public one without parameters", Modifier.isPublic(constructors[0].getModifiers())
                && constructors[0].getParameterCount() == 0);
        for (Field field : PlaitBench.class.getDeclaredFields()) {
            if (!Modifier.isPrivate(field.getModifiers())) {
                hidden.add(Modifier.toString(field.getModifiers()) + " " + field.getType() + " " + field.getName());
            }
        }
        Check.holds("the constant of the document alone: " + hidden, hidden.equals(Set.of("public static final int NONE")));
    }

    private static String told(Method method) {
        StringBuilder told = new StringBuilder(method.getReturnType().getSimpleName() + " " + method.getName() + "(");
        String comma = "";
        for (Class<?> type : method.getParameterTypes()) {
            told.append(comma).append(type.getSimpleName());
            comma = ",";
        }
        told.append(')');
        for (Class<?> thrown : method.getExceptionTypes()) {
            told.append(' ').append(thrown.getSimpleName());
        }
        return told.toString();
    }

    private static void checkClasses() {
        Class<?>[] inside = PlaitBench.class.getDeclaredClasses();
        Check.holds("at most twelve classes", inside.length < 12);
        for (Class<?> one : inside) {
            Check.holds(one + " is static", Modifier.isStatic(one.getModifiers()));
            Check.holds(one + " is hidden", !Modifier.isPublic(one.getModifiers()));
            checkMembers(one);
            for (Method method : one.getDeclaredMethods()) {
                Check.holds(method + " bears no name of the face",
                        FACE.stream().noneMatch(face -> face.contains(" " + method.getName() + "(")));
            }
        }
        checkMembers(PlaitBench.class);
    }

    private static void checkMembers(Class<?> one) {
        long fields = Arrays.stream(one.getDeclaredFields()).filter(f -> !Modifier.isStatic(f.getModifiers())).count();
        Check.holds(one + " has at most twenty fields", fields <= 20);
        for (Field field : one.getDeclaredFields()) {
            Check.holds(field + " is no static state",
                    !Modifier.isStatic(field.getModifiers()) || Modifier.isFinal(field.getModifiers()));
        }
        for (Method method : one.getDeclaredMethods()) {
            Check.holds(method + " takes at most seven", method.getParameterCount() <= 7);
        }
    }

    private static void checkSource(String path) throws IOException {
        List<String> lines = Files.readAllLines(Path.of(path));
        int since = 0;
        for (int number = 1; number <= lines.size(); number++) {
            String line = lines.get(number - 1);
            for (String word : NOT_ALLOWED) {
                Check.holds("line " + number + " has no " + word, !Pattern.compile(word).matcher(line).find());
            }
            Check.holds("line " + number + " imports what is allowed",
                    !line.startsWith("import") || line.equals("import java.util.NoSuchElementException;"));
            if (line.matches("    (    )?[\\w].*\\{")) {
                since = number;
            }
            if (line.matches("    (    )?\\}") && since > 0) {
                Check.holds("the method at line " + since + " is short", number - since <= 60);
                since = 0;
            }
        }
    }
}
