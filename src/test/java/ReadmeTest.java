import java.io.ByteArrayOutputStream;
import java.io.IOException;
import java.io.PrintStream;
import java.lang.reflect.Method;
import java.lang.reflect.Modifier;
import java.nio.charset.StandardCharsets;
import java.nio.file.Files;
import java.nio.file.Path;
import java.util.List;
import java.util.stream.Collectors;
import java.util.stream.Stream;

/** What README.md says is so: its example and what that prints, the calls, and the tests. */
public final class ReadmeTest {
    private static final Checks checks = new Checks();
    private static final Path TESTS = Path.of("src/test/java");

    public static void main(String[] args) throws IOException {
        String readme = Files.readString(Path.of("README.md"));
        example(readme);
        calls(readme);
        tests(readme);
        checks.finish("ReadmeTest");
    }

    private static void example(String readme) throws IOException {
        String code = Files.readString(TESTS.resolve("Example.java"));
        checks.due("README.md shows Example.java", readme.contains("```java\n" + code + "```\n"), true);
        String printed = printedByExample();
        checks.due("README.md shows what it prints: " + printed, readme.contains("```text\n" + printed + "```\n"), true);
    }

    private static String printedByExample() {
        ByteArrayOutputStream bytes = new ByteArrayOutputStream();
        PrintStream before = System.out;
        System.setOut(new PrintStream(bytes, true, StandardCharsets.UTF_8));
        Example.main(new String[0]);
        System.setOut(before);
        return bytes.toString(StandardCharsets.UTF_8).replace(System.lineSeparator(), "\n");
    }

    private static void calls(String readme) {
        for (Method m : ObjectMachine.class.getDeclaredMethods()) {
            if (Modifier.isPublic(m.getModifiers())) {
                checks.due("README.md has a row for " + m.getName(), readme.contains("\n| `" + m.getName() + "("), true);
            }
        }
    }

    private static void tests(String readme) throws IOException {
        checks.due("README.md tells how to run the tests", readme.contains("    .ci/run\n"), true);
        checks.due(".ci/run can be run", Files.isExecutable(Path.of(".ci/run")), true);
        List<String> names;
        try (Stream<Path> files = Files.list(TESTS)) {
            names = files.map(f -> f.getFileName().toString()).filter(n -> n.endsWith("Test.java")).collect(Collectors.toList());
        }
        for (String name : names) {
            String test = name.substring(0, name.length() - ".java".length());
            checks.due("README.md names " + test, readme.contains("`" + test + "`"), true);
        }
    }
}
