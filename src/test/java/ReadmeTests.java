import java.io.IOException;
import java.lang.reflect.Method;
import java.lang.reflect.Modifier;
import java.nio.file.Files;
import java.nio.file.Path;
import java.util.Set;
import java.util.TreeSet;
import java.util.regex.Matcher;
import java.util.regex.Pattern;
import java.util.stream.Stream;

/** The calls in README.md, in their order on one object: each answers what stands behind it. */
public final class ReadmeTests {
    private static final Pattern EXAMPLES = Pattern.compile("```java\n(.*?)```", Pattern.DOTALL);
    private static final Pattern CALL = Pattern.compile("x\\.(\\w+)\\(([-\\d, ]*)\\); +// (-?\\d+)(:.*)?");
    private static final String NEW_OBJECT = "GivingHeaps x = new GivingHeaps();";
    private static final int MOST_CALLS = 512;
    private static final Set<String> shown = new TreeSet<>();
    private static int calls = 0;
    private static int wrong = 0;

    private static void fault(String what) {
        wrong++;
        System.out.println(what);
    }

    private static Method methodNamed(String name) {
        for (Method m : GivingHeaps.class.getMethods()) {
            if (m.getDeclaringClass() == GivingHeaps.class && m.getName().equals(name)) {
                return m;
            }
        }
        return null;
    }

    private static Object[] numbersIn(String text) {
        String inner = text.trim();
        return inner.isEmpty() ? new Object[0] : Stream.of(inner.split(" *, *")).map(Integer::valueOf).toArray();
    }

    private static void run(GivingHeaps x, String line) throws ReflectiveOperationException {
        Matcher call = CALL.matcher(line);
        if (!call.matches()) {
            fault("no call with its answer: " + line);
            return;
        }
        Method method = methodNamed(call.group(1));
        Object[] numbers = numbersIn(call.group(2));
        if (method == null || method.getParameterCount() != numbers.length) {
            fault("the class has no such call: " + line);
            return;
        }
        calls++;
        shown.add(call.group(1));
        long got = ((Number) method.invoke(x, numbers)).longValue();
        if (got != Long.parseLong(call.group(3))) {
            fault("answered " + got + ": " + line);
        }
    }

    private static void examples(String readme) throws ReflectiveOperationException {
        GivingHeaps x = new GivingHeaps();
        Matcher block = EXAMPLES.matcher(readme);
        while (block.find()) {
            for (String line : block.group(1).split("\n")) {
                if (!line.equals(NEW_OBJECT)) {
                    run(x, line);
                }
            }
        }
    }

    private static void everyCallIsShown() {
        for (Method m : GivingHeaps.class.getDeclaredMethods()) {
            if (Modifier.isPublic(m.getModifiers()) && !shown.contains(m.getName())) {
                fault("README.md does not show " + m.getName());
            }
        }
    }

    private static void everyTestIsNamed(String readme) throws IOException {
        try (Stream<Path> tests = Files.list(Path.of("src/test/java"))) {
            tests.map(path -> path.getFileName().toString().replace(".java", ""))
                .filter(name -> !readme.contains("`" + name + "`"))
                .forEach(name -> fault("README.md does not name " + name));
        }
    }

    public static void main(String[] args) throws IOException, ReflectiveOperationException {
        String readme = Files.readString(Path.of("README.md"));
        examples(readme);
        everyCallIsShown();
        everyTestIsNamed(readme);
        if (calls > MOST_CALLS) {
            fault("more calls than an object serves for: " + calls);
        }
        System.out.println(wrong == 0 ? calls + " calls of README.md are as due" : wrong + " things are not as due");
        if (wrong != 0) {
            System.exit(1);
        }
    }
}
