import java.lang.reflect.Field;
import java.lang.reflect.Method;
import java.lang.reflect.Modifier;
import java.nio.file.Files;
import java.nio.file.Path;
import java.util.Arrays;
import java.util.regex.Matcher;
import java.util.regex.Pattern;

/** README.md: its example answers as it says, and it names every call, every constant and how the tests are run. */
public final class ReadmeTest {
    public static void main(String[] args) throws Exception {
        String page = Files.readString(Path.of("README.md"));
        example(page);
        for (Method m : ModelSender.class.getDeclaredMethods()) if (Modifier.isPublic(m.getModifiers())) call(page, m);
        names(page, "| `ModelSender()` |");
        for (Field f : ModelSender.class.getFields()) names(page, "| `" + f.getName() + "` | " + f.get(null) + " |");
        names(page, ".ci/run");
        try (var files = Files.list(Path.of("src/test/java"))) {
            for (Path file : files.sorted().toList()) {
                String name = file.getFileName().toString().replace(".java", "");
                if (name.endsWith("Test")) names(page, "`" + name + "`");
            }
        }
        Due.end();
    }

    private static void names(String page, String what) {
        Due.is("README.md has " + what, page.contains(what) ? 1 : 0, 1);
    }

    /** A row of the table, with the parameters by their types; the names are those of the document. */
    private static void call(String page, Method m) {
        String ints = String.join(", ", java.util.Collections.nCopies(m.getParameterCount(), "int \\w+"));
        String row = "\\| `" + m.getReturnType() + " " + m.getName() + "\\(" + ints + "\\)` \\|";
        Due.is("README.md has a row of " + m.getName(), Pattern.compile(row).matcher(page).find() ? 1 : 0, 1);
    }

    private static void example(String page) throws Exception {
        ModelSender x = new ModelSender();
        Matcher lines = Pattern.compile("(?m)^x\\.(\\w+)\\(([-\\d, ]+)\\);\\s*// (-?\\d+):").matcher(page);
        int count = 0;
        while (lines.find()) {
            Object[] numbers = Arrays.stream(lines.group(2).split(", ")).map(Integer::valueOf).toArray();
            Class<?>[] ints = new Class<?>[numbers.length];
            Arrays.fill(ints, int.class);
            Object answer = ModelSender.class.getMethod(lines.group(1), ints).invoke(x, numbers);
            Due.is("README.md: " + lines.group(), ((Number) answer).longValue(), Long.parseLong(lines.group(3)));
            count++;
        }
        int calls = page.split("(?m)^x\\.", -1).length - 1;
        Due.is("lines of the example that were tried", count, calls);
        Due.is("there is an example", count > 5 ? 1 : 0, 1);
    }
}
