import java.util.ArrayList;
import java.util.HashMap;
import java.util.HashSet;
import java.util.List;
import java.util.Map;
import java.util.Random;
import java.util.Set;

/** Promises 4 and 5, Term I: random texts, read by a second reader too. */
public final class CampModelTest {
    public static void main(String[] args) {
        againstTheModel();
        Due.finish();
    }

    private static final String[] PIECES = {"hut", "garden", "count", "run", "look", "bed", "wide", "wood", "sand", "walk",
        "reach", "board", "air", "pace", "fall", "a", "b", "c", "0", "1", "5", "20", "400", "9999", ";", ";", "abcdefghi",
        "12345", "!", "X"};

    private static void againstTheModel() {
        Random random = new Random(5);
        TrouserSand x = new TrouserSand();
        int calls = 0;
        for (int i = 0; i < 30000; i++) {
            String text = randomText(random);
            if (calls > 400) {
                x = new TrouserSand();
                calls = 0;
            }
            calls += text.length() / 20 + 6;
            Model model = new Model(text);
            Due.is("camp() of " + text, Due.camp(x, text), model.kind == 0 ? model.clauses : -1);
            Due.is("fault(0) of " + text, x.fault(0), model.kind);
            Due.is("fault(1) of " + text, x.fault(1), model.kind == 0 ? -1 : model.place);
        }
    }

    static String randomText(Random random) {
        StringBuilder text = new StringBuilder();
        int clauses = random.nextInt(14);
        for (int c = 0; c < clauses; c++) {
            text.append(randomClause(random));
        }
        if (random.nextInt(3) == 0 && text.length() > 0) {
            int at = random.nextInt(text.length());
            String piece = PIECES[random.nextInt(PIECES.length)];
            text.replace(at, Math.min(text.length(), at + random.nextInt(4)), random.nextBoolean() ? piece : " ");
        }
        if (random.nextInt(8) == 0) {
            text.setLength(random.nextInt(text.length() + 1));
        }
        text.setLength(Math.min(text.length(), 900));
        return text.toString();
    }

    private static String randomClause(Random random) {
        String[] names = {"a", "b", "c", "d", "hut", "abcdefgh"};
        String keyword = PIECES[random.nextInt(15)];
        StringBuilder clause = new StringBuilder(keyword);
        int[] shape = Model.SHAPES.get(keyword);
        for (int w = 0; w < shape[0]; w++) {
            clause.append(' ').append(names[random.nextInt(names.length)]);
        }
        for (int n = 0; n < shape[1]; n++) {
            int least = shape[2 + 2 * n];
            int greatest = shape[3 + 2 * n];
            int value = random.nextInt(12) == 0 ? random.nextInt(9999) : least + random.nextInt(greatest - least + 1);
            clause.append(random.nextInt(9) == 0 ? '\n' : ' ').append(value);
        }
        return clause.append(random.nextBoolean() ? ";" : " ;\n").toString();
    }

    /** The same grammar read in another way: all TOKENS first, then clause by clause. */
    static final class Model {
        static final Map<String, int[]> SHAPES = new HashMap<>();

        static {
            SHAPES.put("hut", new int[] {1, 3, 0, 400, 1, 300, 1, 40});
            SHAPES.put("garden", new int[] {1, 3, 0, 400, 0, 999, 0, 9999});
            SHAPES.put("count", new int[] {1, 1, 0, 99});
            SHAPES.put("run", new int[] {2, 1, 0, 60});
            SHAPES.put("look", new int[] {1, 1, 0, 99});
            SHAPES.put("bed", new int[] {0, 2, 0, 20, 0, 20});
            SHAPES.put("wide", new int[] {0, 1, 10, 400});
            SHAPES.put("wood", new int[] {0, 1, 0, 300});
            SHAPES.put("sand", new int[] {0, 1, 1, 99});
            SHAPES.put("walk", new int[] {0, 1, 1, 40});
            SHAPES.put("reach", new int[] {0, 1, 0, 700});
            SHAPES.put("board", new int[] {0, 1, 0, 9});
            SHAPES.put("air", new int[] {0, 1, 10, 200});
            SHAPES.put("pace", new int[] {0, 1, 1, 50});
            SHAPES.put("fall", new int[] {0, 1, 0, 50});
        }

        int kind;
        int place;
        int clauses;
        private final List<String> tokens = new ArrayList<>();
        private final List<Integer> places = new ArrayList<>();
        private int next = 0;

        Model(String text) {
            java.util.regex.Matcher m = java.util.regex.Pattern.compile("[a-z]+|[0-9]+|[^ \n]").matcher(text);
            while (m.find()) {
                tokens.add(m.group());
                places.add(m.start());
            }
            tokens.add("");
            places.add(text.length());
            Set<String> used = new HashSet<>();
            Map<String, Integer> number = new HashMap<>();
            while (kind == 0 && !tokens.get(next).isEmpty()) {
                clause(used, number);
            }
        }

        private boolean refuse(int k) {
            kind = k;
            place = places.get(next);
            return false;
        }

        private void clause(Set<String> used, Map<String, Integer> number) {
            String keyword = tokens.get(next);
            int[] shape = SHAPES.get(keyword);
            if (shape == null) {
                refuse(1);
                return;
            }
            if (shape[0] == 0 && !used.add(keyword)) {
                refuse(3);
                return;
            }
            int limit = keyword.equals("hut") ? 5 : keyword.equals("garden") || keyword.equals("look") ? 4 : 1000;
            if (number.merge(keyword, 1, Integer::sum) > limit) {
                refuse(4);
                return;
            }
            next++;
            if (!names(keyword, shape[0], used)) {
                return;
            }
            for (int n = 0; n < shape[1]; n++) {
                String token = tokens.get(next);
                if (!token.matches("[0-9]{1,4}")) {
                    refuse(1);
                    return;
                }
                int value = Integer.parseInt(token);
                if (value < shape[2 + 2 * n] || value > shape[3 + 2 * n]) {
                    refuse(2);
                    return;
                }
                next++;
            }
            if (!tokens.get(next).equals(";")) {
                refuse(1);
                return;
            }
            next++;
            clauses++;
        }

        private boolean names(String keyword, int words, Set<String> used) {
            String first = "";
            for (int w = 0; w < words; w++) {
                String name = tokens.get(next);
                if (!name.matches("[a-z]{1,8}")) {
                    return refuse(1);
                }
                boolean reference = keyword.equals("count") || keyword.equals("run");
                if (reference && !used.contains("hut " + name)) {
                    return refuse(5);
                }
                if (keyword.equals("run") && w == 0) {
                    first = name;
                } else if (keyword.equals("run")) {
                    boolean fresh = !name.equals(first) && used.add("run " + first + " " + name);
                    used.add("run " + name + " " + first);
                    if (!fresh) {
                        return refuse(3);
                    }
                } else if (!used.add(keyword + " " + name)) {
                    return refuse(3);
                }
                next++;
            }
            return true;
        }
    }
}
