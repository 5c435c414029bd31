import java.lang.reflect.Constructor;
import java.lang.reflect.Field;
import java.lang.reflect.Method;
import java.lang.reflect.Modifier;
import java.nio.charset.StandardCharsets;
import java.nio.file.Files;
import java.nio.file.Path;
import java.nio.file.Paths;
import java.util.Arrays;
import java.util.TreeSet;

/** The public face and the constants. */
public final class FaceTest {
    public static void main(String[] args) throws Exception {
        methods();
        constants();
        constructor();
        asTheDocumentWritesIt();
        Due.finish();
    }

    /** Reflection doesn't tell how parameters are named: the lines of the two texts do. */
    private static void asTheDocumentWritesIt() throws Exception {
        Path document = Paths.get("../shared/DOC.md");
        if (Files.isReadable(document)) {
            TreeSet<String> due = publicLines(document);
            Due.is("public members in the document", due.size(), 4 + 1 + 39);
            TreeSet<String> written = publicLines(Paths.get("src/main/java/TrouserSand.java"));
            Due.holds("the public members are written as in the document: " + written, written.equals(due));
        }
    }

    private static TreeSet<String> publicLines(Path text) throws Exception {
        TreeSet<String> lines = new TreeSet<>();
        for (String line : Files.readAllLines(text, StandardCharsets.UTF_8)) {
            if (line.startsWith("    public ")) {
                lines.add(line.replaceFirst("( \\{|;)$", ""));
            }
        }
        return lines;
    }

    private static void methods() {
        TreeSet<String> methods = new TreeSet<>();
        for (Method m : TrouserSand.class.getDeclaredMethods()) {
            if (!Modifier.isPrivate(m.getModifiers())) {
                methods.add(m.getName() + m.getParameterCount() + m.getReturnType());
            }
        }
        String due = "feed5 end1 camp0 fault1 told1 run2 chance1 open1 shift2 tunnel2 boards0 lies1 carry3 had1 most1 "
            + "until0 keep1 take1 gone2 runners0 wrong0 kept2 needed2 second4 drift1 string4 right3 where2 up2 join2 "
            + "round2 morning0 order0 best1 goes2 list6 listed1 across3 count1";
        TreeSet<String> wanted = new TreeSet<>();
        for (String name : due.split(" ")) {
            wanted.add(name + "int");
        }
        Due.holds("the methods are those of the document: " + methods, methods.equals(wanted));
    }

    private static void constants() {
        TreeSet<String> fields = new TreeSet<>();
        for (Field f : TrouserSand.class.getDeclaredFields()) {
            if (!Modifier.isPrivate(f.getModifiers())) {
                fields.add(f.getName());
            }
        }
        Due.holds("the constants are those of the document: " + fields,
            fields.equals(new TreeSet<>(Arrays.asList("NONE", "RANGE", "FULL", "STATE"))));
        Due.is("NONE", TrouserSand.NONE, -1);
        Due.is("RANGE", TrouserSand.RANGE, -2);
        Due.is("FULL", TrouserSand.FULL, -3);
        Due.is("STATE", TrouserSand.STATE, -4);
    }

    private static void constructor() {
        Constructor<?>[] made = TrouserSand.class.getDeclaredConstructors();
        Due.is("constructors", made.length, 1);
        Due.holds("the constructor is public", Modifier.isPublic(made[0].getModifiers()));
        Due.is("its parameters", made[0].getParameterCount(), 0);
        Due.holds("the class is final", Modifier.isFinal(TrouserSand.class.getModifiers()));
    }
}
