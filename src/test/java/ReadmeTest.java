import java.io.IOException;
import java.lang.reflect.InvocationTargetException;
import java.lang.reflect.Method;
import java.lang.reflect.Modifier;
import java.nio.file.Files;
import java.nio.file.Path;
import java.util.regex.Matcher;
import java.util.regex.Pattern;

/** README.md's example is made as it stands there; each call of the face is told of. */
public final class ReadmeTest {
    private static final Pattern TEXT = Pattern.compile("String text = \"([^\"]*)\";");
    private static final Pattern CALL = Pattern.compile("x\\.(\\w+)\\(([-0-9, ]*)\\);\\s*// (-?[0-9]+)\\b");

    private final Checks checks = new Checks();
    private final String readme;

    private ReadmeTest(String readme) {
        this.readme = readme;
    }

    public static void main(String[] args) throws IOException, ReflectiveOperationException {
        ReadmeTest t = new ReadmeTest(Files.readString(Path.of("README.md")));
        t.example();
        t.face();
        t.tests();
        t.checks.end();
    }

    private void example() throws IllegalAccessException, InvocationTargetException {
        FallowFerry x = new FallowFerry();
        Matcher text = TEXT.matcher(readme);
        checks.due("README.md has a text", text.find() ? 1 : 0, 1);
        Tell.type(x, text.group(1));
        int lines = 0;
        Matcher call = CALL.matcher(readme);
        while (call.find()) {
            checks.due("README.md, " + call.group(), answer(x, call.group(1), call.group(2)), Long.parseLong(call.group(3)));
            lines++;
        }
        int told = readme.split("\nx\\.").length - 1;
        checks.due("README.md, lines that are a call", lines, told);
        checks.due("README.md, there are some", lines > 10 ? 1 : 0, 1);
    }

    private static long answer(FallowFerry x, String name, String told)
            throws IllegalAccessException, InvocationTargetException {
        String[] numbers = told.isEmpty() ? new String[0] : told.split(", *");
        for (Method m : FallowFerry.class.getDeclaredMethods()) {
            if (m.getName().equals(name) && m.getParameterCount() == numbers.length) {
                return ((Number) m.invoke(x, values(m, numbers))).longValue();
            }
        }
        throw new IllegalArgumentException("no such call: " + name);
    }

    private static Object[] values(Method m, String[] numbers) {
        Object[] all = new Object[numbers.length];
        for (int k = 0; k < all.length; k++) {
            boolean isLong = m.getParameterTypes()[k] == long.class;
            if (isLong) all[k] = Long.valueOf(numbers[k].trim()); else all[k] = Integer.valueOf(numbers[k].trim());
        }
        return all;
    }

    private void face() {
        for (Method m : FallowFerry.class.getDeclaredMethods()) {
            if (!Modifier.isPublic(m.getModifiers())) continue;
            Matcher row = Pattern.compile("\\| `" + m.getName() + "\\(([^)]*)\\)` \\|").matcher(readme);
            boolean found = row.find();
            checks.due("README.md tells of " + m.getName(), found ? 1 : 0, 1);
            if (!found) continue;
            int told = row.group(1).isEmpty() ? 0 : row.group(1).split(",").length;
            checks.due("README.md, parameters of " + m.getName(), told, m.getParameterCount());
        }
    }

    private void tests() throws IOException {
        try (var files = Files.list(Path.of("src/test/java"))) {
            for (Path file : files.toList()) {
                String name = file.getFileName().toString();
                if (!name.endsWith("Test.java")) continue;
                checks.due("README.md tells of " + name, readme.contains(name + "`") ? 1 : 0, 1);
            }
        }
    }
}
