import java.util.ArrayList;
import java.util.HashMap;
import java.util.HashSet;
import java.util.List;
import java.util.Map;
import java.util.Random;
import java.util.Set;

/** Promises 4 to 7: camp, fault, told, run. */
public final class CampTest {
    private static final String FIVE = "hut a 1 1 1;hut b 2 2 2;hut c 3 3 3;hut d 4 4 4;hut e 5 5 5;";

    public static void main(String[] args) {
        told();
        runs();
        faults();
        bounds();
        resets();
        againstTheModel();
        Due.finish();
    }

    private static void told() {
        TrouserSand x = new TrouserSand();
        String text = FIVE + "garden a 7 8 9;garden hut 400 999 9999;garden c 0 0 0;garden count 1 2 3;"
            + "look a 0;look look 99;look bb 5;look c 6;count e 99;count a 0;run a e 60;\n bed 20 3;"
            + "wide 400;wood 300;sand 99;walk 40;reach 700;board 9;air 200;pace 50;fall 50;";
        Due.is("camp()", Due.camp(x, text), 26);
        Due.is("fault(0)", x.fault(0), 0);
        Due.is("fault(1)", x.fault(1), -1);
        Due.is("fault(2)", x.fault(2), -1);
        Due.is("fault(-1)", x.fault(-1), -1);
        Due.is("count(0)", x.count(0), 26);
        int[] general = {5, 4, 4, 400, 300, 99, 40, 700, 9, 200, 50, 50, 20, 3};
        for (int what = 0; what < 20; what++) {
            Due.is("told(" + what + ")", x.told(what), what < general.length ? general[what] : -1);
        }
        int[] minutes = {0, -1, -1, -1, 99};
        int[] gardenX = {7, 400, 0, 1};
        int[] gardenDay = {8, 999, 0, 2};
        int[] gardenAll = {9, 9999, 0, 3};
        int[] looks = {0, 99, 5, 6};
        for (int i = 0; i < 10; i++) {
            Due.is("told x " + i, x.told(20 + i), i < 5 ? i + 1 : -1);
            Due.is("told back " + i, x.told(30 + i), i < 5 ? i + 1 : -1);
            Due.is("told men " + i, x.told(40 + i), i < 5 ? i + 1 : -1);
            Due.is("told minute " + i, x.told(50 + i), i < 5 ? minutes[i] : -1);
            Due.is("told garden x " + i, x.told(60 + i), i < 4 ? gardenX[i] : -1);
            Due.is("told a day " + i, x.told(70 + i), i < 4 ? gardenDay[i] : -1);
            Due.is("told in all " + i, x.told(80 + i), i < 4 ? gardenAll[i] : -1);
            Due.is("told look " + i, x.told(90 + i), i < 4 ? looks[i] : -1);
        }
        Due.is("told(-1)", x.told(-1), -1);
        Due.is("told(100)", x.told(100), -1);
        Due.is("told(least)", x.told(Integer.MIN_VALUE), -1);
        Due.is("told(greatest)", x.told(Integer.MAX_VALUE), -1);
        Due.is("no blanks needed", Due.camp(x, "huta1 1 1;"), -1);
        Due.is("no blanks needed", Due.camp(x, "hut a1 2 3;count a5;bed7 6;"), 3);
        Due.is("told(20)", x.told(20), 1);
        Due.is("told(50)", x.told(50), 5);
        Due.is("told(12)", x.told(12), 7);
        Due.is("blanks", Due.camp(x, "\n\n hut\nabcdefgh 0001 02 \n3 ; "), 1);
        Due.is("told(30)", x.told(30), 2);
        Due.is("empty", Due.camp(x, ""), 0);
        Due.is("told(0)", x.told(0), 0);
    }

    private static void runs() {
        TrouserSand x = Due.withCamp(FIVE + "run a b 60;run d c 0;run b e 7;");
        Due.is("run(0, 1)", x.run(0, 1), 60);
        Due.is("run(1, 0)", x.run(1, 0), 60);
        Due.is("run(2, 3)", x.run(2, 3), 0);
        Due.is("run(3, 2)", x.run(3, 2), 0);
        Due.is("run(4, 1)", x.run(4, 1), 7);
        Due.is("run(0, 4)", x.run(0, 4), 5);
        for (int h = 0; h < 5; h++) {
            Due.is("run to itself", x.run(h, h), 0);
        }
        Due.is("run(5, 0)", x.run(5, 0), -2);
        Due.is("run(0, 5)", x.run(0, 5), -2);
        Due.is("run(-1, 0)", x.run(-1, 0), -2);
        Due.is("run(0, -1)", x.run(0, -1), -2);
        Due.is("run(5, 5)", x.run(5, 5), -2);
    }

    private static void faults() {
        Due.faulty("hut", 1, 3);
        Due.faulty("hut ", 1, 4);
        Due.faulty("hut a 1 1 1", 1, 11);
        Due.faulty("hut a 1 1 1 1;", 1, 12);
        Due.faulty("hut a 1 1;", 1, 9);
        Due.faulty("hut 1 1 1;", 1, 4);
        Due.faulty(";", 1, 0);
        Due.faulty("wide 100;;", 1, 9);
        Due.faulty("hat a 1 1 1;", 1, 0);
        Due.faulty("hut A 1 1 1;", 1, 4);
        Due.faulty("hut aB 1 1 1;", 1, 5);
        Due.faulty("hut abcdefghi 1 1 1;", 1, 4);
        Due.faulty("hut a 00001 1 1;", 1, 6);
        Due.faulty("wide\t100;", 1, 4);
        Due.faulty("wide -1;", 1, 5);
        Due.faulty("wide a;", 1, 5);
        Due.faulty("run a b 5;", 5, 4);
        Due.faulty("hut a 1 1 1;run a b 5;", 5, 18);
        Due.faulty("hut a 1 1 1;run b a 5;", 5, 16);
        Due.faulty("hut a 1 1 1;run a a 5;", 3, 18);
        Due.faulty("hut a 1 1 1;hut b 1 1 1;run a b 5;run b a 5;", 3, 40);
        Due.faulty("hut a 1 1 1;hut b 1 1 1;run a b 61;", 2, 32);
        Due.faulty("hut a 1 1 1;hut a 1 1 1;", 3, 16);
        Due.faulty("garden a 1 1 1;garden a 1 1 1;", 3, 22);
        Due.faulty("look a 1;look a 1;", 3, 14);
        Due.faulty("garden a 1 1 1;count a 1;", 5, 21);
        Due.faulty("count a 1;hut a 1 1 1;", 5, 6);
        Due.faulty("hut a 1 1 1;count a 1;count a 1;", 3, 28);
        Due.faulty("bed 1 1;bed 1 1;", 3, 8);
        String[] single = {"wide", "wood", "sand", "walk", "reach", "board", "air", "pace", "fall"};
        for (String name : single) {
            String once = name + (name.equals("wide") || name.equals("air") ? " 10;" : " 9;");
            Due.faulty(once + " " + once, 3, once.length() + 1);
            Due.faulty(name + ";", 1, name.length());
        }
        Due.faulty(FIVE + "hut a 1 1 1;", 4, FIVE.length());
        Due.faulty(FIVE + "\nhut f 1 1 1;", 4, FIVE.length() + 1);
        String gardens = "garden a 1 1 1;garden b 1 1 1;garden c 1 1 1;garden d 1 1 1;";
        Due.faulty(gardens + "garden e 1 1 1;", 4, gardens.length());
        String looks = "look a 1;look b 1;look c 1;look d 1;";
        Due.faulty(looks + "look e 1;", 4, looks.length());
        Due.faulty("wide 1;hat", 2, 5);
        String[] unlike = {"a", "z", "aa", "az", "za", "zz", "zzzzzzzz", "azzzzzzz", "zzzzzzza", "aaaaaaaa", "aaaaaaa"};
        for (String one : unlike) {
            for (String other : unlike) {
                String text = "hut " + one + " 1 1 1;hut " + other + " 1 1 1;";
                if (one.equals(other)) {
                    Due.faulty(text, 3, 16 + one.length() - 1);
                } else {
                    Due.is(text, Due.withCamp(text).count(0), 2);
                }
            }
        }
        // Names of other kinds are free.
        Due.is("names", Due.withCamp("hut a 1 1 1;garden a 1 1 1;look a 1;").count(0), 3);
    }

    private static void bounds() {
        String[] before = {"hut a ", "hut a 1 ", "hut a 1 1 ", "garden a ", "garden a 1 ", "garden a 1 1 ",
            "hut a 1 1 1;count a ", "hut a 1 1 1;hut b 1 1 1;run a b ", "look a ", "bed ", "bed 1 ", "wide ", "wood ",
            "sand ", "walk ", "reach ", "board ", "air ", "pace ", "fall "};
        String[] behind = {" 1 1;", " 1;", ";", " 1 1;", " 1;", ";", ";", ";", ";", " 1;", ";", ";", ";", ";", ";", ";",
            ";", ";", ";", ";"};
        int[] least = {0, 1, 1, 0, 0, 0, 0, 0, 0, 0, 0, 10, 0, 1, 1, 0, 0, 10, 1, 0};
        int[] greatest = {400, 300, 40, 400, 999, 9999, 99, 60, 99, 20, 20, 400, 300, 99, 40, 700, 9, 200, 50, 50};
        for (int i = 0; i < before.length; i++) {
            Due.is(before[i] + least[i], Due.withCamp(before[i] + least[i] + behind[i]).fault(0), 0);
            Due.is(before[i] + greatest[i], Due.withCamp(before[i] + greatest[i] + behind[i]).fault(0), 0);
            if (least[i] > 0) {
                Due.faulty(before[i] + (least[i] - 1) + behind[i], 2, before[i].length());
            }
            if (greatest[i] < 9999) {
                Due.faulty(before[i] + (greatest[i] + 1) + behind[i], 2, before[i].length());
            }
        }
    }

    private static final String DIG = "hut a 10 20 10;hut b 20 20 10;garden g 10 50 900;look l 50;count a 5;count b 20;pace 49;";

    private static void resets() {
        TrouserSand x = Due.withCamp(DIG);
        x.chance(7);
        x.open(0);
        x.shift(0, 4);
        x.carry(0, 0, 5);
        x.keep(0);
        x.keep(1);
        x.gone(1, 2);
        x.drift(4);
        x.string(9, 5, 2, 1);
        x.right(9, 0, 6);
        x.join(5, 0);
        x.join(6, 1);
        x.round(20, 30);
        x.best(50);
        x.list(1, 3, 0, 0, 0, 0);
        Due.is("a faulty camp()", Due.camp(x, "hut a 1;"), -1);
        Due.is("fault(0)", x.fault(0), 1);
        Due.is("fault(1)", x.fault(1), 7);
        Due.is("count(0) stays", x.count(0), 7);
        Due.is("told(0) stays", x.told(0), 2);
        Due.is("TUNNELS stay", x.count(1), 1);
        Due.is("feet stay", x.tunnel(0, 1), 19);
        Due.is("SAND stays", x.lies(0), 185);
        Due.is("had stays", x.had(0), 5);
        Due.is("boards stay", x.boards(), 42);
        Due.is("GONE stays", x.count(6), 2);
        Due.is("STRINGS stay", x.count(2), 1);
        Due.is("RIGHT stays", x.count(3), 1);
        Due.is("listed stays", x.listed(2) >= 0 ? 1 : 0, 1);
        Due.is("goes stays", x.goes(0, 1), 5);
        Due.is("SLOTS stay", x.take(1), 19);
        Due.is("camp()", Due.camp(x, DIG), 7);
        Due.is("fault(0)", x.fault(0), 0);
        Due.is("fault(1)", x.fault(1), -1);
        Due.is("TUNNELS", x.count(1), 0);
        Due.is("tunnel(0, 0)", x.tunnel(0, 0), -2);
        Due.is("SAND", x.lies(0), 0);
        Due.is("had", x.had(0), 0);
        Due.is("boards", x.boards(), 80);
        Due.is("GONE", x.count(6), 0);
        Due.is("STRINGS", x.count(2), 0);
        Due.is("RIGHT", x.count(3), 0);
        Due.is("listed", x.listed(0), -1);
        Due.is("goes", x.goes(0, 0), -1);
        Due.is("take(0)", x.take(0), -4);
        Due.is("take(1)", x.take(1), -4);
        Due.is("a new STRING", x.string(0, 5, 2, 1), 0);
        Due.is("was never put RIGHT", x.right(0, 0, 5), 1);
        Due.is("PEOPLE stay", x.count(4), 2);
        Due.is("ROUNDS stay", x.count(5), 1);
        Due.is("drift", x.drift(1), 0);
        Due.is("the latest STEP is 0", x.string(0, 1, 0, 0), 1);
        Due.is("a tunnel from the beginning", x.open(1), 0);
        for (int what = 1; what < 6; what++) {
            Due.is("tunnel(0, " + what + ")", x.tunnel(0, what), 0);
        }
        chanceStays();
    }

    private static void chanceStays() {
        String text = "hut a 10 20 40;board 0;pace 10;fall 50;";
        TrouserSand x = Due.withCamp(text);
        TrouserSand y = Due.withCamp(text);
        x.open(0);
        y.open(0);
        for (int i = 0; i < 5; i++) {
            x.shift(0, 1);
            y.shift(0, 1);
        }
        Due.camp(x, text);
        x.open(0);
        int before = y.tunnel(0, 4);
        for (int i = 0; i < 20; i++) {
            x.shift(0, 1);
            y.shift(0, 1);
            Due.is("falls by THE CHANCE that stays", x.tunnel(0, 4), y.tunnel(0, 4) - before);
        }
    }

    private static final String[] PIECES = {"hut", "garden", "count", "run", "look", "bed", "wide", "wood", "sand", "walk",
        "reach", "board", "air", "pace", "fall", "a", "b", "c", "0", "1", "5", "20", "400", "9999", ";", ";", "abcdefghi",
        "12345", "!", "X"};

    private static void againstTheModel() {
        Random random = new Random(5);
        TrouserSand x = new TrouserSand();
        int calls = 0;
        for (int i = 0; i < 30000; i++) {
            String text = randomText(random);
            if (calls > 400) {
                x = new TrouserSand();
                calls = 0;
            }
            calls += text.length() / 20 + 6;
            Model model = new Model(text);
            Due.is("camp() of " + text, Due.camp(x, text), model.kind == 0 ? model.clauses : -1);
            Due.is("fault(0) of " + text, x.fault(0), model.kind);
            Due.is("fault(1) of " + text, x.fault(1), model.kind == 0 ? -1 : model.place);
        }
    }

    private static String randomText(Random random) {
        StringBuilder text = new StringBuilder();
        int clauses = random.nextInt(14);
        for (int c = 0; c < clauses; c++) {
            text.append(randomClause(random));
        }
        if (random.nextInt(3) == 0 && text.length() > 0) {
            int at = random.nextInt(text.length());
            String piece = PIECES[random.nextInt(PIECES.length)];
            text.replace(at, Math.min(text.length(), at + random.nextInt(4)), random.nextBoolean() ? piece : " ");
        }
        if (random.nextInt(8) == 0) {
            text.setLength(random.nextInt(text.length() + 1));
        }
        text.setLength(Math.min(text.length(), 900));
        return text.toString();
    }

    private static String randomClause(Random random) {
        String[] names = {"a", "b", "c", "d", "hut", "abcdefgh"};
        String keyword = PIECES[random.nextInt(15)];
        StringBuilder clause = new StringBuilder(keyword);
        int[] shape = Model.SHAPES.get(keyword);
        for (int w = 0; w < shape[0]; w++) {
            clause.append(' ').append(names[random.nextInt(names.length)]);
        }
        for (int n = 0; n < shape[1]; n++) {
            int least = shape[2 + 2 * n];
            int greatest = shape[3 + 2 * n];
            int value = random.nextInt(12) == 0 ? random.nextInt(9999) : least + random.nextInt(greatest - least + 1);
            clause.append(random.nextInt(9) == 0 ? '\n' : ' ').append(value);
        }
        return clause.append(random.nextBoolean() ? ";" : " ;\n").toString();
    }

    /** The same grammar read in another way: all TOKENS first, then clause by clause. */
    private static final class Model {
        static final Map<String, int[]> SHAPES = new HashMap<>();

        static {
            SHAPES.put("hut", new int[] {1, 3, 0, 400, 1, 300, 1, 40});
            SHAPES.put("garden", new int[] {1, 3, 0, 400, 0, 999, 0, 9999});
            SHAPES.put("count", new int[] {1, 1, 0, 99});
            SHAPES.put("run", new int[] {2, 1, 0, 60});
            SHAPES.put("look", new int[] {1, 1, 0, 99});
            SHAPES.put("bed", new int[] {0, 2, 0, 20, 0, 20});
            SHAPES.put("wide", new int[] {0, 1, 10, 400});
            SHAPES.put("wood", new int[] {0, 1, 0, 300});
            SHAPES.put("sand", new int[] {0, 1, 1, 99});
            SHAPES.put("walk", new int[] {0, 1, 1, 40});
            SHAPES.put("reach", new int[] {0, 1, 0, 700});
            SHAPES.put("board", new int[] {0, 1, 0, 9});
            SHAPES.put("air", new int[] {0, 1, 10, 200});
            SHAPES.put("pace", new int[] {0, 1, 1, 50});
            SHAPES.put("fall", new int[] {0, 1, 0, 50});
        }

        int kind;
        int place;
        int clauses;
        private final List<String> tokens = new ArrayList<>();
        private final List<Integer> places = new ArrayList<>();
        private int next = 0;

        Model(String text) {
            java.util.regex.Matcher m = java.util.regex.Pattern.compile("[a-z]+|[0-9]+|[^ \n]").matcher(text);
            while (m.find()) {
                tokens.add(m.group());
                places.add(m.start());
            }
            tokens.add("");
            places.add(text.length());
            Set<String> used = new HashSet<>();
            Map<String, Integer> number = new HashMap<>();
            while (kind == 0 && !tokens.get(next).isEmpty()) {
                clause(used, number);
            }
        }

        private boolean refuse(int k) {
            kind = k;
            place = places.get(next);
            return false;
        }

        private void clause(Set<String> used, Map<String, Integer> number) {
            String keyword = tokens.get(next);
            int[] shape = SHAPES.get(keyword);
            if (shape == null) {
                refuse(1);
                return;
            }
            if (shape[0] == 0 && !used.add(keyword)) {
                refuse(3);
                return;
            }
            int limit = keyword.equals("hut") ? 5 : keyword.equals("garden") || keyword.equals("look") ? 4 : 1000;
            if (number.merge(keyword, 1, Integer::sum) > limit) {
                refuse(4);
                return;
            }
            next++;
            if (!names(keyword, shape[0], used)) {
                return;
            }
            for (int n = 0; n < shape[1]; n++) {
                String token = tokens.get(next);
                if (!token.matches("[0-9]{1,4}")) {
                    refuse(1);
                    return;
                }
                int value = Integer.parseInt(token);
                if (value < shape[2 + 2 * n] || value > shape[3 + 2 * n]) {
                    refuse(2);
                    return;
                }
                next++;
            }
            if (!tokens.get(next).equals(";")) {
                refuse(1);
                return;
            }
            next++;
            clauses++;
        }

        private boolean names(String keyword, int words, Set<String> used) {
            String first = "";
            for (int w = 0; w < words; w++) {
                String name = tokens.get(next);
                if (!name.matches("[a-z]{1,8}")) {
                    return refuse(1);
                }
                boolean reference = keyword.equals("count") || keyword.equals("run");
                if (reference && !used.contains("hut " + name)) {
                    return refuse(5);
                }
                if (keyword.equals("run") && w == 0) {
                    first = name;
                } else if (keyword.equals("run")) {
                    boolean fresh = !name.equals(first) && used.add("run " + first + " " + name);
                    used.add("run " + name + " " + first);
                    if (!fresh) {
                        return refuse(3);
                    }
                } else if (!used.add(keyword + " " + name)) {
                    return refuse(3);
                }
                next++;
            }
            return true;
        }
    }
}
