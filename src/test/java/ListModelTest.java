import java.util.ArrayList;
import java.util.List;
import java.util.Random;

/** Promises 37 and 38, Term V: random LISTS. */
public final class ListModelTest {
    public static void main(String[] args) {
        againstTheModel();
        Due.finish();
    }

    private static void againstTheModel() {
        Random random = new Random(37);
        TrouserSand x = new TrouserSand();
        for (int n = 0; n < 2000; n++) {
            if (n % 15 == 0) {
                x = new TrouserSand();
            }
            int seed = random.nextInt() & 0x7fffffff;
            int people = 1 + random.nextInt(30);
            int mask = (1 << people) - 1;
            int workers = random.nextInt() & mask;
            int speak = random.nextInt() & mask;
            int first = random.nextInt(Integer.bitCount(workers) + 1);
            int speakers = Integer.bitCount(speak & ~workers);
            int then = random.nextInt(speakers + 1);
            List<Integer> left = new ArrayList<>();
            for (int p = 0; p < people; p++) {
                left.add(p);
            }
            List<Integer> due = new ArrayList<>();
            long[] s = {seed};
            draw(s, left, due, workers, first);
            draw(s, left, due, speak & ~workers, then);
            draw(s, left, due, mask, people - first - then);
            Due.is("list", x.list(seed, people, workers, first, speak, then), people);
            for (int i = 0; i < people; i++) {
                Due.is("listed(" + i + ")", x.listed(i), due.get(i));
            }
        }
    }

    static void draw(long[] s, List<Integer> left, List<Integer> due, int group, int n) {
        for (int i = 0; i < n; i++) {
            List<Integer> of = new ArrayList<>();
            for (int p : left) {
                if ((group & 1 << p) != 0) {
                    of.add(p);
                }
            }
            s[0] = (1103515245L * s[0] + 12345L) % 2147483648L;
            Integer who = of.get((int) (s[0] / 65536 % of.size()));
            due.add(who);
            left.remove(who);
        }
    }
}
