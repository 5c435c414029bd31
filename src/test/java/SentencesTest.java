import java.nio.charset.StandardCharsets;
import java.nio.file.DirectoryStream;
import java.nio.file.Files;
import java.nio.file.Path;
import java.nio.file.Paths;
import java.util.ArrayList;
import java.util.List;
import java.util.Map;
import java.util.TreeMap;
import java.util.regex.Matcher;
import java.util.regex.Pattern;

/** The words that the tests name stand in the document, and its answers and bounds are all named by a test. */
public final class SentencesTest {
    private static final Pattern NAMED = Pattern.compile("Due\\.(promise|term)\\(\"?(\\w+)\"?, \"([^\"]*)\"\\)");
    private static final Pattern ANSWER = Pattern.compile("\\b(NONE|RANGE|FULL|STATE)\\b");
    private static final Pattern BOUND = Pattern.compile("\\w+ \\.\\. (\\d+|wide|MEN|M over 2)|at most \\d+|\\d+ at most|\\d+ at least|\\(cut\\)");

    public static void main(String[] args) throws Exception {
        Path document = Paths.get("../shared/DOC.md");
        if (Files.isReadable(document)) {
            Map<String, String> sections = sections(new String(Files.readAllBytes(document), StandardCharsets.UTF_8));
            Map<String, List<String>> named = named(Paths.get("src/test/java"));
            for (int promise = 1; promise <= 40; promise++) {
                check("promise " + promise, sections, named);
            }
            for (String term : new String[] {"I", "II", "III", "IV", "V"}) {
                check("term " + term, sections, named);
            }
        }
        Due.finish();
    }

    private static void check(String section, Map<String, String> sections, Map<String, List<String>> named) {
        String text = sections.getOrDefault(section, "");
        List<String> quotes = named.getOrDefault(section, new ArrayList<>());
        Due.holds(section + " is in the document", !text.isEmpty());
        Due.holds(section + " is named by a test", !quotes.isEmpty());
        for (String quote : quotes) {
            Due.holds("the document says '" + quote + "' in " + section, text.contains(quote));
        }
        covered(section, text, quotes, ANSWER);
        covered(section, text, quotes, BOUND);
    }

    private static void covered(String section, String text, List<String> quotes, Pattern pattern) {
        Matcher m = pattern.matcher(text);
        while (m.find()) {
            String found = m.group();
            Due.holds("a test names '" + found + "' of " + section, quotes.stream().anyMatch(quote -> quote.contains(found)));
        }
    }

    private static Map<String, String> sections(String document) {
        Map<String, String> sections = new TreeMap<>();
        for (String part : document.split("(?m)^## ")) {
            Matcher promise = Pattern.compile("Promise (\\d+): [^\n]*\n(.*)", Pattern.DOTALL).matcher(part);
            if (promise.matches()) {
                // The signature ahead of the colon says nothing that is tested here.
                sections.put("promise " + promise.group(1), promise.group(2).replaceFirst("^\\s*`[^`]*`: ", ""));
            } else if (part.startsWith("Terms")) {
                Matcher term = Pattern.compile("(?ms)^(I|II|III|IV|V)\\. (.*?)(?=^[IV]+\\. |^The constants)").matcher(part);
                while (term.find()) {
                    sections.put("term " + term.group(1), term.group(2));
                }
            }
        }
        return sections;
    }

    private static Map<String, List<String>> named(Path tests) throws Exception {
        Map<String, List<String>> named = new TreeMap<>();
        try (DirectoryStream<Path> files = Files.newDirectoryStream(tests, "*Test.java")) {
            for (Path file : files) {
                Matcher m = NAMED.matcher(new String(Files.readAllBytes(file), StandardCharsets.UTF_8));
                while (m.find()) {
                    named.computeIfAbsent(m.group(1) + " " + m.group(2), key -> new ArrayList<>()).add(m.group(3));
                }
            }
        }
        return named;
    }
}
