import java.io.IOException;
import java.lang.reflect.Method;
import java.lang.reflect.Modifier;
import java.nio.file.DirectoryStream;
import java.nio.file.Files;
import java.nio.file.Path;
import java.util.regex.Matcher;
import java.util.regex.Pattern;

/** README.md tells the truth: its example, its list of calls and its list of tests. */
final class ReadmeTest {
    private static final Path README = Path.of("README.md");
    private static final Path TESTS = Path.of("src/test/java");
    private static final Pattern CALL =
            Pattern.compile("desk\\.(\\w+)\\(([^)]*)\\);\\s*// (-?\\w+).*");

    public static void main(String[] args) {
        Cases.run(ReadmeTest.class);
    }

    static void exampleAnswersWhatItTells(Check check)
            throws IOException, ReflectiveOperationException {
        HotEditions desk = new HotEditions();
        for (String line : example()) {
            Matcher call = CALL.matcher(line);
            if (call.matches()) {
                Object answer = answerOf(desk, call.group(1), call.group(2).split(", *"));
                check.same(line, answer.toString(), call.group(3));
            } else {
                check.no("a call without its answer: " + line, line.startsWith("desk."));
            }
        }
    }

    static void everyCallIsInTheList(Check check) throws IOException {
        String text = Files.readString(README);
        for (Method method : HotEditions.class.getDeclaredMethods()) {
            if (Modifier.isPublic(method.getModifiers())) {
                check.yes(method.getName(), text.contains("| `" + method.getName() + "("));
            }
        }
    }

    static void everyTestIsInTheList(Check check) throws IOException {
        String text = Files.readString(README);
        try (DirectoryStream<Path> files = Files.newDirectoryStream(TESTS, "*Test.java")) {
            for (Path file : files) {
                String name = file.getFileName().toString().replace(".java", "");
                check.yes(name, text.contains("`" + name + "`"));
            }
        }
    }

    private static String[] example() throws IOException {
        String text = Files.readString(README);
        int from = text.indexOf("```java");
        return text.substring(from, text.indexOf("```", from + 1)).split("\n");
    }

    private static Object answerOf(HotEditions desk, String name, String[] words)
            throws ReflectiveOperationException {
        for (Method method : HotEditions.class.getMethods()) {
            if (method.getName().equals(name)) {
                return method.invoke(desk, values(method.getParameterTypes(), words));
            }
        }
        throw new NoSuchMethodException(name);
    }

    private static Object[] values(Class<?>[] types, String[] words) {
        Object[] values = new Object[types.length];
        for (int i = 0; i < types.length; i++) {
            if (types[i] == boolean.class) {
                values[i] = Boolean.valueOf(words[i]);
            } else {
                values[i] = Integer.valueOf(words[i]);
            }
        }
        return values;
    }
}
