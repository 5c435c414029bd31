import java.nio.charset.StandardCharsets;
import java.nio.file.Files;
import java.nio.file.Paths;
import java.util.List;
import java.util.regex.Matcher;
import java.util.regex.Pattern;

/** The rules of LANGUAGE.md that a look at the text can tell. */
public final class LanguageTest {
    private static final String[] REFUSED = {"\\b(throw|try|catch|synchronized|assert|native|transient|volatile)\\b", "->",
        "::", "\\+ *\"", "\" *\\+", "\\bString\\[\\]", "\\bObject\\b", "\\bSystem\\.(?!arraycopy)", "Exact\\(", "\\bRandom\\b",
        "^import (?!java\\.util\\.(Arrays|ArrayList|List);)", "\\.(equals|hashCode|toString)\\(", "\\bnull\\b", "\\bpackage\\b"};

    public static void main(String[] args) throws Exception {
        List<String> lines = Files.readAllLines(Paths.get("src/main/java/TrouserSand.java"), StandardCharsets.UTF_8);
        int classes = 0;
        int methodFrom = -1;
        for (int i = 0; i < lines.size(); i++) {
            String line = lines.get(i).replaceAll("//.*|/\\*\\*.*", "");
            for (String refused : REFUSED) {
                Matcher m = Pattern.compile(refused).matcher(line);
                Due.is("line " + (i + 1) + " has " + refused, m.find() ? 1 : 0, 0);
            }
            if (line.matches(".*\\bclass\\b.*\\{")) {
                classes++;
                Due.is("line " + (i + 1) + ": a class is static and private, or the face",
                    line.matches("public final class TrouserSand \\{|    private static final class \\w+ \\{") ? 1 : 0, 1);
            } else if (line.matches("(    |        )[\\w\\[\\] ]+\\([^)]*\\) \\{") && !line.matches(" *(if|for|while|switch).*")) {
                methodFrom = i;
            } else if (line.matches("(    |        )\\}") && methodFrom >= 0 && line.indexOf('}') == indent(lines.get(methodFrom))) {
                Due.is("line " + (methodFrom + 1) + ": a method of some sixty lines at most", i - methodFrom > 60 ? 1 : 0, 0);
                methodFrom = -1;
            }
            if (line.contains(" static ") && line.contains("=") && !line.contains("(")) {
                Due.is("line " + (i + 1) + ": a static field is final", line.contains("static final") ? 1 : 0, 1);
            }
        }
        Due.is("at most some twelve classes", classes <= 12 ? 1 : 0, 1);
        Due.finish();
    }

    private static int indent(String line) {
        int i = 0;
        while (i < line.length() && line.charAt(i) == ' ') {
            i++;
        }
        return i;
    }
}
