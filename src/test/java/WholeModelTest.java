import java.lang.reflect.Method;
import java.util.Arrays;
import java.util.HashMap;
import java.util.Map;
import java.util.Random;

/** All promises at once: runs of any calls, each answer held to that of the plain model. */
public final class WholeModelTest {
    private static final int RUNS = 800;
    private static final int MOST_CALLS = 500;
    private static final int[] EDGES = {Integer.MIN_VALUE, -1, 0, 1, 5, 8, 10, 16, 20, 21, 30, 31, 40, 41, 60, 99, 100, 200, 201, 400, 401,
        600, 601, 900, 999, 1000, 9999, 10000, Integer.MAX_VALUE};
    private static final String[] CALLS = {"told", "told", "run", "chance", "open", "open", "shift", "shift", "shift", "shift", "tunnel",
        "tunnel", "tunnel", "boards", "lies", "lies", "carry", "carry", "had", "most", "until", "keep", "take", "gone", "gone", "gone",
        "runners", "wrong", "kept", "needed", "second", "drift", "string", "string", "string", "right", "right", "where", "where", "up",
        "up", "join", "join", "join", "round", "round", "best", "best", "goes", "goes", "goes", "goes", "list", "listed", "listed", "across",
        "count", "count", "fault", "feed", "end"};
    /** Of the calls whose numbers are mostly great ones: how great they mostly are. */
    private static final Map<String, int[]> GREATEST = new HashMap<>();

    static {
        GREATEST.put("told", new int[] {100});
        GREATEST.put("chance", new int[] {100});
        GREATEST.put("shift", new int[] {3, 40});
        GREATEST.put("tunnel", new int[] {3, 6});
        GREATEST.put("carry", new int[] {3, 3, 30});
        GREATEST.put("most", new int[] {30});
        GREATEST.put("keep", new int[] {2});
        GREATEST.put("take", new int[] {2});
        GREATEST.put("gone", new int[] {5, 5});
        GREATEST.put("kept", new int[] {4, 60});
        GREATEST.put("needed", new int[] {90, 60});
        GREATEST.put("second", new int[] {60, 60, 4, 2});
        GREATEST.put("drift", new int[] {20});
        GREATEST.put("string", new int[] {0, 40, 8, 4});
        GREATEST.put("right", new int[] {0, 4, 40});
        GREATEST.put("where", new int[] {60, 3});
        GREATEST.put("up", new int[] {4, 60});
        GREATEST.put("join", new int[] {20, 2});
        GREATEST.put("round", new int[] {90, 100});
        GREATEST.put("best", new int[] {120});
        GREATEST.put("goes", new int[] {5, 2});
        GREATEST.put("list", new int[] {1000, 12, 64, 3, 64, 3});
        GREATEST.put("listed", new int[] {12});
        GREATEST.put("across", new int[] {60, 50, 2});
        GREATEST.put("count", new int[] {8});
        GREATEST.put("end", new int[] {60});
    }

    private final Map<String, Method> real = new HashMap<>();
    private final Map<String, Method> plain = new HashMap<>();
    private TrouserSand x;
    private Plain y;
    private int calls;
    private int step;
    private int run;

    public static void main(String[] args) throws Exception {
        WholeModelTest test = new WholeModelTest();
        for (Method m : TrouserSand.class.getDeclaredMethods()) {
            test.real.put(m.getName(), m);
        }
        for (Method m : Plain.class.getDeclaredMethods()) {
            if (test.real.containsKey(m.getName()) && m.getParameterCount() == test.real.get(m.getName()).getParameterCount()) {
                test.plain.put(m.getName(), m);
            }
        }
        for (int n = 0; n < RUNS; n++) {
            test.play(new Random(n), n);
        }
        Due.finish();
    }

    private void play(Random random, int number) throws Exception {
        x = new TrouserSand();
        y = new Plain();
        run = number;
        calls = 0;
        step = 0;
        if (number % 20 != 0) {
            tell(random);
        }
        while (calls < MOST_CALLS - 60) {
            int kind = random.nextInt(250);
            if (kind == 0) {
                tell(random);
            } else if (kind == 1) {
                ask("morning");
            } else if (kind < 9) {
                feed(randomOrder(random));
                ask("order");
            } else {
                String call = CALLS[random.nextInt(CALLS.length)];
                ask(call, numbers(call, random));
            }
        }
    }

    /** Mostly a text with HUTS and GARDENS that reach one another; else any text. */
    private void tell(Random random) throws Exception {
        if (random.nextInt(6) == 0) {
            feed(CampModelTest.randomText(random));
        } else {
            StringBuilder text = new StringBuilder("reach " + random.nextInt(500) + ";pace " + (1 + random.nextInt(30)) + ";air 10;");
            int huts = 1 + random.nextInt(5);
            for (int h = 0; h < huts; h++) {
                text.append("hut ").append((char) ('a' + h)).append(' ').append(random.nextInt(300)).append(' ')
                    .append(1 + random.nextInt(60)).append(' ').append(1 + random.nextInt(12)).append(';');
                if (random.nextInt(4) != 0) {
                    text.append("count ").append((char) ('a' + h)).append(' ').append(random.nextInt(40)).append(';');
                }
                if (h > 0 && random.nextBoolean()) {
                    text.append("run a ").append((char) ('a' + h)).append(' ').append(random.nextInt(20)).append(';');
                }
            }
            int gardens = random.nextInt(5);
            for (int g = 0; g < gardens; g++) {
                text.append("garden ").append((char) ('a' + g)).append(' ').append(random.nextInt(300)).append(' ')
                    .append(random.nextInt(20)).append(' ').append(random.nextInt(300)).append(';');
            }
            int looks = random.nextInt(5);
            for (int l = 0; l < looks; l++) {
                text.append("look ").append((char) ('a' + l)).append(' ').append(random.nextInt(40)).append(';');
            }
            text.append(random.nextBoolean() ? "fall " + random.nextInt(51) + ";" : "").append(random.nextBoolean() ? "board 1;" : "")
                .append(random.nextBoolean() ? "wood " + random.nextInt(40) + ";" : "");
            feed(text.toString());
        }
        if (ask("camp") >= 0) {
            step = 0;
        }
        ask("fault", 0);
        ask("fault", 1);
    }

    private static String randomOrder(Random random) {
        StringBuilder text = new StringBuilder();
        for (int i = random.nextInt(4); i > 0; i--) {
            text.append((char) (48 + random.nextInt(5)));
        }
        return text.toString();
    }

    private void feed(String text) throws Exception {
        ask("end", 0);
        for (int from = 0; from < text.length(); from += 20) {
            int[] five = new int[5];
            for (int b = 0; b < 20; b++) {
                int c = from + b < text.length() ? text.charAt(from + b) : 0;
                five[b / 4] = five[b / 4] << 8 | c;
            }
            ask("feed", five);
        }
        ask("end", text.length());
    }

    private int[] numbers(String call, Random random) {
        int[] numbers = new int[real.get(call).getParameterCount()];
        int[] greatest = GREATEST.get(call);
        for (int i = 0; i < numbers.length; i++) {
            int n = random.nextInt(greatest == null || greatest[i] == 0 ? 4 : greatest[i]);
            numbers[i] = random.nextInt(25) == 0 ? EDGES[random.nextInt(EDGES.length)] : n;
        }
        if (call.equals("string") || call.equals("right")) {
            step += random.nextInt(3);
            numbers[0] = random.nextInt(15) == 0 ? EDGES[random.nextInt(EDGES.length)] : Math.min(step, 999);
        }
        if (call.equals("round") && random.nextInt(8) != 0) {
            numbers[1] = numbers[0] + 1 + random.nextInt(9);
        }
        return numbers;
    }

    private int ask(String call, int... numbers) throws Exception {
        Object[] given = Arrays.stream(numbers).boxed().toArray();
        calls++;
        int due = (Integer) plain.get(call).invoke(y, given);
        int got = (Integer) real.get(call).invoke(x, given);
        Due.is("run " + run + ", call " + calls + ": " + call + Arrays.toString(given), got, due);
        return got;
    }
}
