import java.io.IOException;
import java.lang.reflect.Method;
import java.lang.reflect.Modifier;
import java.nio.file.Files;
import java.nio.file.Path;
import java.util.ArrayList;
import java.util.Arrays;
import java.util.List;
import java.util.regex.Matcher;
import java.util.regex.Pattern;

/** README.md: its example answers as it says, and its tables tell every call of the class. */
public final class ReadmeTest {
    private static final Pattern EXAMPLE = Pattern.compile("room\\.(\\w+)\\(([^)]*)\\); +// (-?\\d+): .+");
    private static final Pattern TOLD = Pattern.compile("\\| `(\\w+)\\(([^)]*)\\)` \\|.*");
    private static final Due due = new Due("ReadmeTest");

    public static void main(String[] args) throws IOException, ReflectiveOperationException {
        List<String> lines = Files.readAllLines(Path.of("README.md"));
        example(lines);
        tables(lines);
        howToTest(lines);
        due.end();
    }

    private static void example(List<String> lines) throws ReflectiveOperationException {
        ToolRoom room = new ToolRoom();
        int calls = 0;
        for (String line : lines) {
            if (line.startsWith("room.")) {
                Matcher matcher = EXAMPLE.matcher(line);
                due.holds("a call with its answer: " + line, matcher.matches());
                if (matcher.matches()) {
                    calls++;
                    int[] arguments = numbers(matcher.group(2));
                    due.is(line, answer(room, matcher.group(1), arguments), Integer.parseInt(matcher.group(3)));
                }
            }
        }
        due.holds("there is an example", calls > 0);
    }

    private static int answer(ToolRoom room, String name, int[] arguments) throws ReflectiveOperationException {
        Class<?>[] types = new Class<?>[arguments.length];
        Arrays.fill(types, int.class);
        Object[] boxed = Arrays.stream(arguments).boxed().toArray();
        return (Integer) ToolRoom.class.getMethod(name, types).invoke(room, boxed);
    }

    private static int[] numbers(String list) {
        return Arrays.stream(list.split(", ")).filter(each -> !each.isEmpty()).mapToInt(Integer::parseInt).toArray();
    }

    private static void tables(List<String> lines) {
        List<String> told = new ArrayList<>();
        for (String line : lines) {
            Matcher matcher = TOLD.matcher(line);
            if (matcher.matches()) {
                String list = matcher.group(2);
                told.add(matcher.group(1) + "/" + (list.isEmpty() ? 0 : list.split(", ").length));
            }
        }
        List<String> calls = new ArrayList<>();
        for (Method method : ToolRoom.class.getDeclaredMethods()) {
            if (Modifier.isPublic(method.getModifiers())) {
                calls.add(method.getName() + "/" + method.getParameterCount());
            }
        }
        told.sort(null);
        calls.sort(null);
        due.holds("each call is told once: " + told, told.equals(calls));
    }

    private static void howToTest(List<String> lines) throws IOException {
        due.holds("it says how to run the tests", lines.contains("    .ci/run"));
        String all = String.join("\n", lines);
        try (var files = Files.list(Path.of("src/test/java"))) {
            for (Path file : files.sorted().toList()) {
                String name = file.getFileName().toString().replace(".java", "");
                due.holds("it tells of " + name, all.contains("`" + name + "`"));
            }
        }
    }
}
