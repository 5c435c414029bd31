import java.lang.reflect.Method;
import java.lang.reflect.Modifier;
import java.nio.charset.StandardCharsets;
import java.nio.file.Files;
import java.nio.file.Paths;
import java.util.List;
import java.util.regex.Matcher;
import java.util.regex.Pattern;

/** The rules of LANGUAGE.md that a look at the text can tell. */
public final class LanguageTest {
    private static final String[] REFUSED = {"\\b(throw|throws|try|catch|synchronized|assert|native|transient|volatile)\\b", "->", "::",
        "\\+ *\"", "\" *\\+", "\\bObject\\b", "\\bSystem\\.(?!arraycopy)", "Exact\\(", "\\b(Random|Thread|File)\\b",
        "^import (?!java\\.util\\.(Arrays|ArrayList|List|Iterator);)", "\\bhashCode\\b", "^package\\b", "[^\\x00-\\x7e]"};
    private static final String NESTED = "    (private )?static (final |abstract )?(class|interface) \\w+.*\\{|    (private )?(static )?(final )?(record|enum) \\w+.*\\{";
    private static final int LONGEST_METHOD = 60;
    private static final int MOST_CLASSES = 12;

    public static void main(String[] args) throws Exception {
        List<String> lines = Files.readAllLines(Paths.get("src/main/java/TrouserSand.java"), StandardCharsets.UTF_8);
        int classes = 0;
        int methodFrom = -1;
        for (int i = 0; i < lines.size(); i++) {
            String line = lines.get(i).replaceAll("//.*|/\\*\\*.*", "");
            refused(line, i + 1);
            if (line.matches(".*\\b(class|record|enum|interface)\\b.*\\{")) {
                classes++;
                Due.holds("line " + (i + 1) + ": a class is the face, or static and inside it",
                    line.matches("public final class TrouserSand \\{") || line.matches(NESTED));
            } else if (isMethod(line)) {
                methodFrom = i;
                Due.holds("line " + (i + 1) + ": seven parameters at most", line.split(",").length <= 7);
                Due.holds("line " + (i + 1) + ": a name that no public method has", line.contains("public ") || !isOfTheFace(line));
            } else if (methodFrom >= 0 && line.matches(" *\\}") && indent(line) == indent(lines.get(methodFrom))) {
                Due.holds("line " + (methodFrom + 1) + ": a method of some sixty lines at most", i - methodFrom <= LONGEST_METHOD);
                methodFrom = -1;
            }
            if (methodFrom >= 0 && !isConstructor(lines.get(methodFrom))) {
                Due.holds("line " + (i + 1) + ": calls make no objects, constructors do", !line.matches(".*\\b(new|clone|copyOf\\w*|substring)\\b.*"));
            }
            if (line.contains(" static ") && line.contains("=") && !line.contains("(")) {
                Due.holds("line " + (i + 1) + ": a static field is final", line.contains("static final"));
            }
        }
        Due.holds("at most some twelve classes", classes <= MOST_CLASSES);
        Due.finish();
    }

    private static void refused(String line, int number) {
        for (String refused : REFUSED) {
            Matcher m = Pattern.compile(refused).matcher(line);
            Due.holds("line " + number + " has no " + refused, !m.find());
        }
    }

    private static boolean isMethod(String line) {
        return line.matches("(    |        )[\\w\\[\\] ]+\\([^)]*\\) \\{") && !line.matches(" *(if|for|while|switch)\\b.*");
    }

    /** A method has a type ahead of its name. */
    private static boolean isConstructor(String line) {
        return line.matches(" *(public |private )?\\w+\\(.*");
    }

    private static boolean isOfTheFace(String line) {
        String name = line.replaceAll("\\(.*", "").replaceAll(".* ", "");
        for (Method m : TrouserSand.class.getDeclaredMethods()) {
            if (Modifier.isPublic(m.getModifiers()) && m.getName().equals(name)) {
                return true;
            }
        }
        return false;
    }

    private static int indent(String line) {
        int i = 0;
        while (i < line.length() && line.charAt(i) == ' ') {
            i++;
        }
        return i;
    }
}
