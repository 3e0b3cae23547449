import java.io.IOException;
import java.lang.reflect.Method;
import java.lang.reflect.Modifier;
import java.nio.file.Files;
import java.nio.file.Path;
import java.util.List;
import java.util.regex.Matcher;
import java.util.regex.Pattern;
import java.util.stream.Stream;

/** README.md is there, says how to use the class and how to run its tests, and what it says is true. */
final class ReadmeTest {
    private static final Path README = Path.of("README.md");
    private static final Path TESTS = Path.of("src/test/java");
    private static final Pattern ANSWER = Pattern.compile("(cable\\..*\\));\\s*// (true|false|-?\\d+)\\b.*");
    private static final String EXAMPLE_START = "```java\n";
    private static final String EXAMPLE_STOP = "```\n";

    public static void main(String[] args) throws IOException, InterruptedException {
        Check check = new Check("ReadmeTest");
        boolean there = Files.isRegularFile(README);
        check.yes("README.md is there", there);
        if (there) {
            String text = Files.readString(README);
            lookAtUse(check, part(text, "## Use"));
            lookAtTests(check, part(text, "## Tests"));
        }
        check.done();
    }

    /** From a heading to the next one; nothing if there is no such heading. */
    private static String part(String text, String heading) {
        int start = text.indexOf(heading + "\n");
        if (start < 0) {
            return "";
        }
        int stop = text.indexOf("\n## ", start);
        return stop < 0 ? text.substring(start) : text.substring(start, stop);
    }

    private static void lookAtUse(Check check, String use) throws IOException, InterruptedException {
        for (Method method : CableNames.class.getDeclaredMethods()) {
            if (Modifier.isPublic(method.getModifiers())) {
                check.yes("the call is named: " + method, use.contains("`" + method.getName() + "("));
            }
        }
        int start = use.indexOf(EXAMPLE_START);
        int stop = start < 0 ? -1 : use.indexOf(EXAMPLE_STOP, start + EXAMPLE_START.length());
        check.yes("there is an example", stop > 0);
        if (stop > 0) {
            runExample(check, use.substring(start + EXAMPLE_START.length(), stop).lines().toList());
        }
    }

    /** The example's lines as a program, which ends with 0 if every answer is the one that stands beside it. */
    private static void runExample(Check check, List<String> lines) throws IOException, InterruptedException {
        StringBuilder code = new StringBuilder("""
            class ReadmeExample {
                static int wrong = 0;
                static void due(String call, Object got, Object due) {
                    if (!got.equals(due)) {
                        wrong++;
                        System.out.println("README.md: " + call + " answered " + got + ", beside it stands " + due);
                    }
                }
                public static void main(String[] args) {
            """);
        int compared = 0;
        for (String line : lines) {
            Matcher answer = ANSWER.matcher(line);
            if (answer.matches()) {
                compared++;
                String call = answer.group(1);
                code.append("due(\"").append(call).append("\", ").append(call).append(", ")
                    .append(answer.group(2)).append(");\n");
            } else {
                code.append(line).append('\n');
            }
        }
        code.append("System.exit(wrong == 0 ? 0 : 1);\n}\n}\n");
        check.yes("the example tells answers", compared > 0);
        check.same("the example's exit code", exitCodeOf(code.toString()), 0);
    }

    private static int exitCodeOf(String code) throws IOException, InterruptedException {
        Path place = Files.createTempDirectory("readme");
        Path file = place.resolve("ReadmeExample.java");
        try {
            Files.writeString(file, code);
            String java = Path.of(System.getProperty("java.home"), "bin", "java").toString();
            return new ProcessBuilder(java, "-cp", System.getProperty("java.class.path"), file.toString())
                .inheritIO().start().waitFor();
        } finally {
            Files.deleteIfExists(file);
            Files.delete(place);
        }
    }

    private static void lookAtTests(Check check, String tests) throws IOException {
        check.yes("the command that runs the tests is named", tests.contains("\n    .ci/run\n"));
        check.yes("it is there", Files.isExecutable(Path.of(".ci/run")));
        try (Stream<Path> files = Files.list(TESTS)) {
            for (Path file : files.sorted().toList()) {
                String name = file.getFileName().toString().replace(".java", "");
                if (name.endsWith("Test")) {
                    check.yes("the test is named: " + name, tests.contains("`" + name + "`"));
                }
            }
        }
    }
}
