import java.io.IOException;
import java.lang.reflect.Method;
import java.lang.reflect.Modifier;
import java.nio.file.Files;
import java.nio.file.Path;
import java.util.ArrayList;
import java.util.List;
import java.util.regex.Matcher;
import java.util.regex.Pattern;

/** README.md tells the truth: its example prints what it says, and its table has a row for each call of the face. */
public final class ReadmeTest {
    private static final Pattern EXAMPLE = Pattern.compile("```java\n(.*?)```", Pattern.DOTALL);
    private static final Pattern PRINTED = Pattern.compile("// prints (.*)");
    private static final Pattern ROW = Pattern.compile("^\\| `(\\w+)\\(([^)]*)\\)` \\|", Pattern.MULTILINE);

    private ReadmeTest() {
    }

    private static List<String> linesDue(String example) {
        List<String> lines = new ArrayList<>();
        Matcher printed = PRINTED.matcher(example);
        while (printed.find()) {
            lines.add(printed.group(1).trim());
        }
        return lines;
    }

    private static List<String> linesPrinted(String example) throws IOException, InterruptedException {
        Path file = Files.createTempDirectory("readme").resolve("Example.java");
        Path out = file.resolveSibling("printed");
        Files.writeString(file, example);
        try {
            new ProcessBuilder("java", "-cp", System.getProperty("java.class.path"), file.toString())
                .redirectErrorStream(true).redirectOutput(out.toFile()).start().waitFor();
            return Files.readAllLines(out);
        } finally {
            Files.deleteIfExists(out);
            Files.delete(file);
            Files.delete(file.getParent());
        }
    }

    private static void testExample(Due due, String readme) throws IOException, InterruptedException {
        Matcher example = EXAMPLE.matcher(readme);
        if (!example.find()) {
            due.fault("README.md has no example");
            return;
        }
        List<String> want = linesDue(example.group(1));
        List<String> got = linesPrinted(example.group(1));
        due.yes("the example says what it prints", !want.isEmpty());
        if (!got.equals(want)) {
            due.fault("the example of README.md printed " + got + ", but says " + want);
        }
    }

    /** A call with the number of its parameters. */
    private static List<String> callsTold(String readme) {
        List<String> calls = new ArrayList<>();
        Matcher row = ROW.matcher(readme);
        while (row.find()) {
            String parameters = row.group(2);
            calls.add(row.group(1) + " " + (parameters.isEmpty() ? 0 : parameters.split(",").length));
        }
        return calls;
    }

    private static void testTable(Due due, String readme) {
        List<String> told = callsTold(readme);
        for (Method method : EpochLedger.class.getDeclaredMethods()) {
            if (Modifier.isPublic(method.getModifiers())) {
                String call = method.getName() + " " + method.getParameterCount();
                due.yes("README.md has a row for " + call, told.remove(call));
            }
        }
        due.is("rows of README.md for calls that are not there " + told, 0, told.size());
    }

    public static void main(String[] args) throws IOException, InterruptedException {
        Due due = new Due();
        String readme = Files.readString(Path.of("README.md"));
        testExample(due, readme);
        testTable(due, readme);
        due.end();
    }
}
