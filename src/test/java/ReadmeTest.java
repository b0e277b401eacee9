import java.io.IOException;
import java.lang.reflect.Field;
import java.lang.reflect.Method;
import java.lang.reflect.Modifier;
import java.nio.file.Files;
import java.nio.file.Path;
import java.util.Arrays;
import java.util.List;
import java.util.regex.Matcher;
import java.util.regex.Pattern;

/** README.md: what its examples say is answered, and it names every call and every test. */
public final class ReadmeTest {
    private static final Check CHECK = new Check("readme");
    private static final Pattern MAKE = Pattern.compile("ChainVersions x = new ChainVersions\\((\\d+)\\);.*");
    private static final Pattern CALL = Pattern.compile("x\\.(\\w+)\\(([-\\d, ]*)\\); +// (-?\\w+).*");

    private static Method methodOf(String name) {
        for (Method m : ChainVersions.class.getDeclaredMethods()) {
            if (m.getName().equals(name) && Modifier.isPublic(m.getModifiers())) {
                return m;
            }
        }
        throw new IllegalStateException("README.md calls " + name + ", and there is no such method");
    }

    private static Object[] arguments(String text) {
        if (text.isBlank()) {
            return new Object[0];
        }
        return Arrays.stream(text.split(",")).map(t -> (Object) Integer.valueOf(t.trim())).toArray();
    }

    /** The answer that an example tells: a constant's name, true or false, or a number. */
    private static Object told(String word) throws ReflectiveOperationException {
        if (word.equals("true") || word.equals("false")) {
            return Boolean.valueOf(word);
        }
        for (Field f : ChainVersions.class.getDeclaredFields()) {
            if (f.getName().equals(word) && Modifier.isPublic(f.getModifiers())) {
                return f.get(null);
            }
        }
        return Integer.valueOf(word);
    }

    private static void examples(List<String> lines) throws ReflectiveOperationException {
        ChainVersions x = null;
        boolean inside = false;
        int calls = 0;
        for (String line : lines) {
            Matcher make = MAKE.matcher(line);
            Matcher call = CALL.matcher(line);
            if (line.startsWith("```")) {
                inside = line.equals("```java");
            } else if (inside && make.matches()) {
                x = new ChainVersions(Integer.parseInt(make.group(1)));
            } else if (inside && call.matches()) {
                Object got = methodOf(call.group(1)).invoke(x, arguments(call.group(2)));
                CHECK.same(line, List.of(got.toString()), List.of(told(call.group(3)).toString()));
                calls++;
            } else if (inside) {
                CHECK.due("an example has a line that is no call with its answer: " + line, false, true);
            }
        }
        CHECK.due("there are examples", calls > 0, true);
    }

    private static void namesAllCalls(String text) {
        for (Method m : ChainVersions.class.getDeclaredMethods()) {
            if (Modifier.isPublic(m.getModifiers())) {
                CHECK.due("README.md names " + m.getName(), text.contains("`" + m.getName() + "("), true);
            }
        }
    }

    private static void namesAllTests(String text) throws IOException {
        try (var files = Files.list(Path.of("src/test/java"))) {
            files.map(f -> f.getFileName().toString()).filter(f -> f.endsWith("Test.java")).forEach(f -> {
                String name = f.substring(0, f.length() - ".java".length());
                CHECK.due("README.md names " + name, text.contains("| `" + name + "` |"), true);
            });
        }
    }

    public static void main(String[] args) throws IOException, ReflectiveOperationException {
        String text = Files.readString(Path.of("README.md"));
        examples(text.lines().toList());
        namesAllCalls(text);
        namesAllTests(text);
        CHECK.end();
    }
}
