import java.io.IOException;
import java.lang.reflect.InvocationTargetException;
import java.lang.reflect.Method;
import java.lang.reflect.Modifier;
import java.nio.file.DirectoryStream;
import java.nio.file.Files;
import java.nio.file.Path;
import java.util.HashMap;
import java.util.Map;
import java.util.regex.Matcher;
import java.util.regex.Pattern;

/** README.md tells things as they stand; run from the project's directory, as .ci/run does. */
public final class ReadmeTest {
    private static final Pattern STEP = Pattern.compile(
            "(?:int (\\w+) = )?monitor\\.(\\w+)\\(([^)]*)\\);\\s*// (-?\\d+)(?:: .*)?");

    private static final Due DUE = new Due("readme");

    private final TaskStates2 monitor = new TaskStates2();
    private final Map<String, Integer> named = new HashMap<>();

    private ReadmeTest() {
    }

    public static void main(String[] args) throws IOException, ReflectiveOperationException {
        String text = Files.readString(Path.of("README.md"));
        new ReadmeTest().example(text);
        everyCallIsNamed(text);
        everyTestFileIsNamed(text);
        DUE.end();
    }

    private void example(String text) throws ReflectiveOperationException {
        DUE.part("the example");
        String block = text.replaceFirst("(?s).*?```java\n(.*?)```.*", "$1");
        String[] lines = block.split("\n");
        DUE.same("its first line", lines[0], "TaskStates2 monitor = new TaskStates2();");
        for (int i = 1; i < lines.length; i++) {
            Matcher step = STEP.matcher(lines[i]);
            boolean isStep = step.matches();
            DUE.same(lines[i], isStep ? "a call with its answer" : "no call", "a call with its answer");
            if (isStep) {
                int got = answer(step.group(2), step.group(3));
                DUE.is(lines[i], got, Long.parseLong(step.group(4)));
                named.put(step.group(1), got);
            }
        }
    }

    private int answer(String name, String values) throws IllegalAccessException, InvocationTargetException {
        Method method = methodOf(name);
        String[] texts = values.isEmpty() ? new String[0] : values.split(", ");
        Class<?>[] types = method.getParameterTypes();
        Object[] given = new Object[types.length];
        for (int i = 0; i < given.length; i++) {
            int value = named.containsKey(texts[i]) ? named.get(texts[i]) : Integer.parseInt(texts[i]);
            if (types[i] == long.class) {
                given[i] = (long) value;
            } else {
                given[i] = value;
            }
        }
        return (int) method.invoke(monitor, given);
    }

    private static Method methodOf(String name) {
        for (Method m : TaskStates2.class.getDeclaredMethods()) {
            if (m.getName().equals(name) && Modifier.isPublic(m.getModifiers())) {
                return m;
            }
        }
        throw new IllegalArgumentException("no such method: " + name);
    }

    private static void everyCallIsNamed(String text) {
        DUE.part("calls");
        for (Method m : TaskStates2.class.getDeclaredMethods()) {
            if (Modifier.isPublic(m.getModifiers())) {
                DUE.same(m.getName(), text.contains("| `" + m.getName() + "(") ? "named" : "not named", "named");
            }
        }
    }

    private static void everyTestFileIsNamed(String text) throws IOException {
        DUE.part("test files");
        try (DirectoryStream<Path> files = Files.newDirectoryStream(Path.of("src/test/java"))) {
            for (Path file : files) {
                String name = file.getFileName().toString();
                String shown = name.endsWith("Test.java") ? name.replace(".java", "") : name;
                DUE.same(name, text.contains("`" + shown + "`") ? "named" : "not named", "named");
            }
        }
    }
}
