import java.lang.reflect.InvocationTargetException;
import java.lang.reflect.Method;
import java.util.ArrayList;
import java.util.Comparator;
import java.util.List;
import java.util.Random;

/** Calls of any kind with any numbers: none may throw, and the same calls give the same answers. */
public final class AnyCallsTest {
    private static final int[] EDGES = {Integer.MIN_VALUE, Integer.MAX_VALUE, -1000, -1, 0, 1, 2, 3, 4, 5, 7, 8, 9, 10, 15, 16,
        20, 21, 30, 31, 32, 40, 60, 99, 100, 200, 400, 512, 600, 900, 999, 1000, 9999, 10000};
    private static final String CAMP = "hut a 10 20 40;hut b 30 20 39;hut c 60 50 7;hut d 90 3 9;hut e 1 1 40;garden g 10 99 9999;"
        + "garden h 200 99 9999;garden i 50 9 99;garden j 0 0 0;count a 0;count b 12;count c 12;count d 30;count e 99;"
        + "run a b 6;run c d 0;look k 50;look l 1;look m 2;look n 3;bed 20 0;wide 400;reach 700;pace 50;fall 20;board 1;";

    public static void main(String[] args) throws Exception {
        List<Method> methods = new ArrayList<>();
        for (Method m : TrouserSand.class.getDeclaredMethods()) {
            if (java.lang.reflect.Modifier.isPublic(m.getModifiers())) {
                methods.add(m);
            }
        }
        methods.sort(Comparator.comparing(Method::getName));
        for (int seed = 0; seed < 600; seed++) {
            long first = play(methods, seed);
            if (seed % 10 == 0) {
                Due.is("the same calls", play(methods, seed), first);
            }
        }
        Due.finish();
    }

    private static long play(List<Method> methods, int seed) throws IllegalAccessException {
        Random random = new Random(seed);
        TrouserSand x = seed % 3 == 0 ? new TrouserSand() : Due.withCamp(CAMP);
        long sum = 0;
        for (int call = 0; call < 460; call++) {
            Method m = methods.get(random.nextInt(methods.size()));
            // A camp read from noise is an empty or faulty one: seldom, so that there is something to call.
            if (m.getName().equals("camp") && random.nextInt(6) != 0) {
                continue;
            }
            Object[] numbers = new Object[m.getParameterCount()];
            for (int i = 0; i < numbers.length; i++) {
                numbers[i] = random.nextInt(3) != 0 ? random.nextInt(6) : random.nextInt(8) == 0 ? random.nextInt()
                    : EDGES[random.nextInt(EDGES.length)];
            }
            try {
                sum = sum * 31 + (Integer) m.invoke(x, numbers);
            } catch (InvocationTargetException thrown) {
                Due.is(m.getName() + " threw " + thrown.getCause() + " by seed " + seed, 1, 0);
            }
        }
        return sum;
    }
}
