import java.io.IOException;
import java.lang.reflect.InvocationTargetException;
import java.lang.reflect.Method;
import java.lang.reflect.Modifier;
import java.nio.file.Files;
import java.nio.file.Path;
import java.util.Set;
import java.util.TreeSet;
import java.util.regex.Matcher;
import java.util.regex.Pattern;
import java.util.stream.Stream;

/** Calls each line of the examples in README.md, and looks whether it names the tests that there are. */
public final class ReadmeTest {
    private static final Pattern EXAMPLES = Pattern.compile("```java\n(.*?)```", Pattern.DOTALL);
    private static final Pattern CALL = Pattern.compile("x\\.(\\w+)\\(([^)]*)\\); +// (-?\\w+)(:.*)?");
    private static final String NEW_OBJECT = "PlaitBench x = new PlaitBench();";

    private static PlaitBench bench = new PlaitBench();

    private ReadmeTest() {
    }

    public static void main(String[] args) throws IOException, IllegalAccessException {
        String readme = Files.readString(Path.of("README.md"));
        checkExamples(readme);
        checkTestsAreNamed(readme);
        Check.end("ReadmeTest");
    }

    private static void checkExamples(String readme) throws IllegalAccessException {
        Set<String> called = new TreeSet<>();
        Matcher examples = EXAMPLES.matcher(readme);
        while (examples.find()) {
            for (String line : examples.group(1).split("\n")) {
                checkLine(line, called);
            }
        }
        for (Method method : PlaitBench.class.getDeclaredMethods()) {
            if (Modifier.isPublic(method.getModifiers())) {
                Check.holds("README.md has a call of " + method.getName(), called.contains(method.getName()));
            }
        }
    }

    private static void checkLine(String line, Set<String> called) throws IllegalAccessException {
        if (line.equals(NEW_OBJECT)) {
            bench = new PlaitBench();
            return;
        }
        Matcher call = CALL.matcher(line);
        boolean isCall = call.matches();
        Check.holds("README.md, a call and its answer: " + line, isCall);
        if (isCall) {
            called.add(call.group(1));
            Check.same("README.md: " + line, call.group(3), answer(call.group(1), call.group(2).split(", ")));
        }
    }

    /** What the call answers, or the plain name of what it throws. */
    private static String answer(String name, String[] words) throws IllegalAccessException {
        Object[] numbers = Stream.of(words).map(Integer::decode).toArray();
        for (Method method : PlaitBench.class.getDeclaredMethods()) {
            if (method.getName().equals(name) && Modifier.isPublic(method.getModifiers())
                    && method.getParameterCount() == numbers.length) {
                try {
                    return method.invoke(bench, numbers).toString();
                } catch (InvocationTargetException thrown) {
                    return thrown.getCause().getClass().getSimpleName();
                }
            }
        }
        return "no such call";
    }

    private static void checkTestsAreNamed(String readme) throws IOException {
        Set<String> there = new TreeSet<>();
        try (Stream<Path> files = Files.list(Path.of("src/test/java"))) {
            files.map(file -> file.getFileName().toString().replace(".java", ""))
                    .filter(name -> name.endsWith("Test")).forEach(there::add);
        }
        Set<String> named = new TreeSet<>();
        Matcher names = Pattern.compile("- `(\\w+Test)`:").matcher(readme);
        while (names.find()) {
            named.add(names.group(1));
        }
        Check.same("README.md names the tests", there.toString(), named.toString());
        Check.holds("README.md names .ci/run", readme.contains("`.ci/run`"));
    }
}
