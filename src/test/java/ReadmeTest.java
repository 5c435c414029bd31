import java.lang.reflect.Method;
import java.nio.charset.StandardCharsets;
import java.nio.file.DirectoryStream;
import java.nio.file.Files;
import java.nio.file.Path;
import java.nio.file.Paths;
import java.util.regex.Matcher;
import java.util.regex.Pattern;

/** README.md: its calls answer what it says, and it tells what one must know. */
public final class ReadmeTest {
    private static final Pattern CALL = Pattern.compile("x\\.(\\w+)\\(([^)]*)\\); *// (-?\\d+).*");
    private static final String[] TOLD = {"| -1 | `NONE` |", "| -2 | `RANGE` |", "| -3 | `FULL` |", "| -4 | `STATE` |",
        "-1000000", "512 calls", "new TrouserSand()", "    .ci/run"};

    public static void main(String[] args) throws Exception {
        String page = new String(Files.readAllBytes(Paths.get("README.md")), StandardCharsets.UTF_8);
        calls(page);
        for (String told : TOLD) {
            Due.holds("README.md tells '" + told + "'", page.contains(told));
        }
        try (DirectoryStream<Path> files = Files.newDirectoryStream(Paths.get("src/test/java"), "*Test.java")) {
            for (Path file : files) {
                String name = file.getFileName().toString().replace(".java", "");
                Due.holds("README.md tells of " + name, page.contains("`" + name + "`"));
            }
        }
        Due.finish();
    }

    private static void calls(String page) throws Exception {
        TrouserSand x = new TrouserSand();
        int calls = 0;
        for (String line : page.split("\n")) {
            Matcher m = CALL.matcher(line);
            if (line.equals("TrouserSand x = new TrouserSand();")) {
                x = new TrouserSand();
            } else if (m.matches()) {
                Due.is("README.md: " + line, call(x, m.group(1), m.group(2)), Integer.parseInt(m.group(3)));
                calls++;
            }
        }
        Due.holds("README.md has calls", calls > 10);
    }

    private static int call(TrouserSand x, String name, String listed) throws Exception {
        String[] words = listed.isEmpty() ? new String[0] : listed.split(", ");
        Object[] numbers = new Object[words.length];
        for (int i = 0; i < words.length; i++) {
            numbers[i] = Integer.decode(words[i]);
        }
        for (Method m : TrouserSand.class.getMethods()) {
            if (m.getName().equals(name) && m.getParameterCount() == numbers.length) {
                return (Integer) m.invoke(x, numbers);
            }
        }
        throw new IllegalStateException("no call " + name + " of " + numbers.length);
    }
}
