import java.io.IOException;
import java.lang.reflect.InvocationTargetException;
import java.lang.reflect.Method;
import java.lang.reflect.Modifier;
import java.nio.file.Files;
import java.nio.file.Path;
import java.util.HashMap;
import java.util.Map;
import java.util.Set;
import java.util.TreeSet;
import java.util.regex.Matcher;
import java.util.regex.Pattern;

/** The example in README.md, and its table of tests. Runs in the project's directory. */
public final class ReadmeTest {
    private static final String START = "IceHarbour x = new IceHarbour();";
    private static final Pattern BLOCK = Pattern.compile("```java\n(.*?)\n```", Pattern.DOTALL);
    private static final Pattern LINE = Pattern.compile(
        "(?:int (\\w+) = )?x\\.(\\w+)\\(([^()]*)\\); +// ((?:throws )?[\\w.-]+)(?:: .*)?");

    private static final IceHarbour x = new IceHarbour();
    private static final Map<String, Object> names = new HashMap<>(Map.of("true", true, "false", false));
    private static final Set<String> called = new TreeSet<>();

    public static void main(String[] args) throws IOException, IllegalAccessException {
        String readme = Files.readString(Path.of("README.md"));
        Matcher block = BLOCK.matcher(readme);
        Check.holds("README.md has an example", block.find());
        String[] lines = block.group(1).split("\n");
        Check.holds("the example starts with a new object", lines[0].equals(START));
        for (int k = 1; k < lines.length; k++) {
            if (!lines[k].isBlank() && !lines[k].startsWith("//")) {
                lineAnswersAsItSays(lines[k]);
            }
        }
        everyCallIsShown();
        everyTestIsNamed(readme);
        Check.end();
    }

    private static void lineAnswersAsItSays(String line) throws IllegalAccessException {
        Matcher m = LINE.matcher(line);
        if (!m.matches()) {
            Check.holds("a call with its answer: " + line, false);
            return;
        }
        Object answer = answerOf(methodNamed(m.group(2)), m.group(3));
        Check.holds("\"" + line + "\" answers " + answer, m.group(4).equals(String.valueOf(answer)));
        if (m.group(1) != null) {
            names.put(m.group(1), answer);
        }
    }

    private static Method methodNamed(String name) {
        for (Method m : IceHarbour.class.getDeclaredMethods()) {
            if (m.getName().equals(name) && Modifier.isPublic(m.getModifiers())) {
                called.add(name);
                return m;
            }
        }
        throw new IllegalStateException("there is no call " + name);
    }

    private static Object answerOf(Method method, String arguments) throws IllegalAccessException {
        String[] texts = arguments.isEmpty() ? new String[0] : arguments.split(", ");
        Object[] values = new Object[texts.length];
        for (int k = 0; k < texts.length; k++) {
            values[k] = names.containsKey(texts[k]) ? names.get(texts[k]) : Integer.valueOf(texts[k]);
        }
        try {
            return method.invoke(x, values);
        } catch (InvocationTargetException e) {
            return "throws " + e.getCause().getClass().getSimpleName();
        }
    }

    private static void everyCallIsShown() {
        for (Method m : IceHarbour.class.getDeclaredMethods()) {
            if (Modifier.isPublic(m.getModifiers())) {
                Check.holds("the example calls " + m.getName(), called.contains(m.getName()));
            }
        }
    }

    private static void everyTestIsNamed(String readme) throws IOException {
        try (var files = Files.list(Path.of("src/test/java"))) {
            for (Path file : files.toList()) {
                String name = file.getFileName().toString().replace(".java", "");
                Check.holds("README.md tells what " + name + " is", readme.contains("`" + name + "`")
                    || readme.contains("`" + name + "."));
            }
        }
    }
}
