import java.io.IOException;
import java.nio.file.DirectoryStream;
import java.nio.file.Files;
import java.nio.file.Path;
import java.util.regex.Matcher;
import java.util.regex.Pattern;

/** README.md says what is so: its example, its calls, its ERRORS, its tests. */
public final class ReadmeTests {
    private static final Pattern CALL = Pattern.compile("(?m)^x\\.(\\w+)\\(([^)]*)\\); *// (-?\\d+)\\b");
    private static final Pattern LINE_OF_EXAMPLE = Pattern.compile("(?m)^x\\.");

    private ReadmeTests() {
    }

    public static void main(String[] args) throws IOException {
        String readme = Files.readString(Path.of("README.md"));
        example(readme);
        calls(readme);
        errors(readme);
        tests(readme);
        Due.end("ReadmeTests");
    }

    private static void example(String readme) {
        Due.says("README", "Use");
        Calls x = new Calls();
        Matcher m = CALL.matcher(readme);
        while (m.find()) {
            String[] numbers = m.group(2).isEmpty() ? new String[0] : m.group(2).split(", ");
            boolean hasWord = m.group(1).equals("feed");
            int[] v = new int[hasWord ? numbers.length - 1 : numbers.length];
            for (int i = 0; i < v.length; i++) {
                v[i] = Integer.decode(numbers[hasWord ? i + 1 : i]);
            }
            long word = hasWord ? Long.decode(numbers[0]) : 0;
            Due.due(m.group(), x.askWith(word, m.group(1), v), Long.parseLong(m.group(3)));
        }
        long lines = LINE_OF_EXAMPLE.matcher(readme).results().count();
        Due.due("lines of the example with an answer", x.many(), lines);
        Due.dueSo("there is an example", lines > 0);
    }

    private static void calls(String readme) {
        Due.says("README", "What a call answers");
        String table = readme.substring(readme.indexOf("## What a call"), readme.indexOf("## What an ERROR"));
        for (java.lang.reflect.Method m : BronzeDown.class.getMethods()) {
            if (m.getDeclaringClass() == BronzeDown.class) {
                Due.dueSo(m.getName() + " is told of", table.contains("`" + m.getName() + "`"));
            }
        }
    }

    private static void errors(String readme) {
        Due.says("README", "What an ERROR is");
        String[] names = {"BEYOND", "NONE", "STATE", "FULL", "KIND"};
        int[] errors = {Due.BEYOND, Due.NONE, Due.STATE, Due.FULL, Due.KIND};
        for (int i = 0; i < names.length; i++) {
            Due.dueSo(names[i] + " is told of", readme.contains("| `" + names[i] + "` | " + errors[i] + " |"));
        }
    }

    private static void tests(String readme) throws IOException {
        Due.says("README", "Tests");
        try (DirectoryStream<Path> files = Files.newDirectoryStream(Path.of("src/test/java"), "*Tests.java")) {
            for (Path file : files) {
                String name = file.getFileName().toString().replace(".java", "");
                Due.dueSo(name + " is told of", readme.contains("| `" + name + "` |"));
            }
        }
    }
}
