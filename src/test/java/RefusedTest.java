import java.lang.reflect.Method;
import java.lang.reflect.Modifier;
import java.util.ArrayList;
import java.util.Arrays;
import java.util.Comparator;
import java.util.List;
import java.util.Random;

/**
 * What a refused call leaves as it was: a run of any calls, and the same run without those that were refused, answer
 * alike. (camp() and order() are left in: what they refuse empties THE TAPE, and a FAULT is told.)
 */
public final class RefusedTest {
    private static final int NOWHERE = -1000000;
    private static final int RUNS = 400;
    private static final int CALLS = 300;
    private static final int[] EDGES = {Integer.MIN_VALUE, Integer.MAX_VALUE, -1, 8, 10, 16, 20, 21, 30, 31, 40, 60, 99, 100, 200, 400,
        401, 600, 900, 999, 1000, 9999, 10000};
    private static final String[] CAMPS = {
        "hut a 10 20 9;hut b 30 20 40;garden g 10 9 99;garden h 200 9 9;count a 0;count b 12;look k 50;pace 25;fall 20;sand 3;",
        "hut a 0 1 3;hut b 0 1 3;hut c 0 1 3;count a 0;count b 10;count c 20;garden g 0 5 50;look a 3;look b 1;pace 10;fall 50;",
        "hut a 0 1 1;garden g 0 1 9;board 9;bed 20 0;pace 50;air 10;wide 50;wood 3;"};
    private static final String[] FAULTY = {"hut z 1 1 1;wide 77;hat", "wide 9;", "wood 1;wood 1;", "count z 1;"};
    private static final String[] MUST_RUN = {"camp", "order"};

    public static void main(String[] args) throws Exception {
        List<Method> methods = new ArrayList<>();
        for (Method m : TrouserSand.class.getDeclaredMethods()) {
            if (Modifier.isPublic(m.getModifiers()) && !m.getName().equals("camp")) {
                methods.add(m);
            }
        }
        methods.sort(Comparator.comparing(Method::getName));
        int refused = 0;
        for (int seed = 0; seed < RUNS; seed++) {
            refused += play(methods, new Random(seed), seed);
        }
        Due.holds("thousands of calls were refused", refused > 5000);
        Due.finish();
    }

    private static int play(List<Method> methods, Random random, int seed) throws Exception {
        TrouserSand all = Due.withCamp(CAMPS[seed % CAMPS.length]);
        TrouserSand some = Due.withCamp(CAMPS[seed % CAMPS.length]);
        int refused = 0;
        for (int call = 0; call < CALLS; call++) {
            if (random.nextInt(60) == 0) {
                String text = random.nextBoolean() ? CAMPS[random.nextInt(CAMPS.length)] : FAULTY[random.nextInt(FAULTY.length)];
                Due.is("camp() of '" + text + "' by seed " + seed, Due.camp(all, text), Due.camp(some, text));
                call += text.length() / 20 + 2;
                continue;
            }
            Method m = methods.get(random.nextInt(methods.size()));
            Object[] numbers = numbers(m, random);
            int answer = (Integer) m.invoke(all, numbers);
            if (isRefused(answer) && !Arrays.asList(MUST_RUN).contains(m.getName())) {
                refused++;
            } else {
                Due.is(m.getName() + Arrays.toString(numbers) + " by seed " + seed, answer, (Integer) m.invoke(some, numbers));
            }
        }
        return refused;
    }

    private static Object[] numbers(Method m, Random random) {
        Object[] numbers = new Object[m.getParameterCount()];
        for (int i = 0; i < numbers.length; i++) {
            numbers[i] = random.nextInt(4) != 0 ? random.nextInt(4) : random.nextInt(3) != 0 ? random.nextInt(25)
                : EDGES[random.nextInt(EDGES.length)];
        }
        return numbers;
    }

    private static boolean isRefused(int answer) {
        return answer < 0 && answer >= TrouserSand.STATE || answer == NOWHERE;
    }
}
