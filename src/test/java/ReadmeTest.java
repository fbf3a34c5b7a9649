import java.io.File;
import java.io.IOException;
import java.lang.reflect.Method;
import java.nio.file.Files;
import java.nio.file.Path;
import java.util.Arrays;
import java.util.regex.Matcher;
import java.util.regex.Pattern;

/** README.md: its example answers what it says, and no call and no test is left out. */
public final class ReadmeTest {
    private static final Pattern LINE = Pattern.compile("(?m)^stand\\.(\\w+)\\(([^)]*)\\); +// (-?\\d+)\\b");

    public static void main(String[] args) throws IOException {
        String text = Files.readString(Path.of("README.md"));
        example(text);
        calls(text);
        tests(text);
        Check.end();
    }

    private static void example(String text) {
        WheelStand stand = new WheelStand();
        Matcher line = LINE.matcher(text);
        int lines = 0;
        while (line.find()) {
            Check.due("README: " + line.group(), Calls.ask(stand, line.group(1), numbers(line.group(2))), Integer.parseInt(line.group(3)));
            lines++;
        }
        Check.due("lines of the example that tell an answer", lines, text.lines().filter(l -> l.startsWith("stand.")).count());
    }

    private static int[] numbers(String list) {
        return list.isEmpty() ? new int[0] : Arrays.stream(list.split(", ")).mapToInt(Integer::parseInt).toArray();
    }

    private static void calls(String text) {
        for (Method method : WheelStand.class.getMethods()) {
            if (method.getDeclaringClass() == WheelStand.class) {
                Check.holds("README tells of " + method.getName(), text.contains("| `" + method.getName() + "("));
            }
        }
    }

    private static void tests(String text) {
        for (File file : new File("src/test/java").listFiles()) {
            String name = file.getName().replace(".java", "");
            Check.holds("README tells of " + name, !name.endsWith("Test") || Pattern.compile("\\b" + name + "\\b").matcher(text).find());
        }
    }
}
