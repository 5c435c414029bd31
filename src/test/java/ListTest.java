import java.util.ArrayList;
import java.util.List;
import java.util.Random;

/** Promises 37 and 38: list, listed. */
public final class ListTest {
    public static void main(String[] args) {
        edges();
        againstTheModel();
        Due.finish();
    }

    private static void edges() {
        TrouserSand x = new TrouserSand();
        int all = (1 << 30) - 1;
        Due.is("ahead of any", x.listed(0), -1);
        Due.is("n 0", x.list(1, 0, 0, 0, 0, 0), -2);
        Due.is("n 31", x.list(1, 31, 0, 0, 0, 0), -2);
        Due.is("seed -1", x.list(-1, 3, 0, 0, 0, 0), -2);
        Due.is("first -1", x.list(1, 3, 1, -1, 0, 0), -2);
        Due.is("then -1", x.list(1, 3, 1, 0, 0, -1), -2);
        Due.is("workers beyond", x.list(1, 3, 8, 0, 0, 0), -2);
        Due.is("speak beyond", x.list(1, 3, 0, 0, 8, 0), -2);
        Due.is("workers below 0", x.list(1, 30, -1, 0, 0, 0), -2);
        Due.is("speak below 0", x.list(1, 30, 0, 0, -1, 0), -2);
        Due.is("not so many work", x.list(1, 3, 3, 3, 0, 0), -1);
        Due.is("not so many speak", x.list(1, 3, 0, 0, 3, 3), -1);
        Due.is("who is in both is a worker", x.list(1, 3, 1, 0, 3, 2), -1);
        Due.is("so very many", x.list(1, 3, 1, Integer.MAX_VALUE, 3, 0), -1);
        Due.is("none told a number", x.listed(0), -1);
        Due.is("one", x.list(2147483647, 1, 1, 1, 1, 0), 1);
        Due.is("listed(0)", x.listed(0), 0);
        Due.is("listed(1)", x.listed(1), -1);
        Due.is("listed(-1)", x.listed(-1), -1);
        Due.is("thirty", x.list(0, 30, all, 30, 0, 0), 30);
        Due.is("listed(30)", x.listed(30), -1);
        long sum = 0;
        for (int i = 0; i < 30; i++) {
            sum |= 1L << x.listed(i);
        }
        Due.is("each once", sum, all);
        int last = x.listed(29);
        x.list(1, 3, 3, 3, 0, 0);
        x.list(1, 31, 3, 3, 0, 0);
        Due.is("the latest that told a number", x.listed(29), last);
        x.morning();
        Due.is("morning() leaves it", x.listed(29), last);
        Due.camp(x, "");
        Due.is("camp() doesn't", x.listed(29), -1);
        chanceIsItsOwn();
    }

    /** A LIST has its seed; THE CHANCE of the falls goes on as it was. */
    private static void chanceIsItsOwn() {
        TrouserSand x = Due.withCamp("hut a 0 1 9;pace 10;fall 39;");
        x.open(0);
        x.list(99, 5, 0, 0, 0, 0);
        Due.is("38 of 100", x.shift(0, 1), 0);
        x.list(99, 5, 0, 0, 0, 0);
        Due.is("58 of 100", x.shift(0, 1), 1);
    }

    private static void againstTheModel() {
        Random random = new Random(37);
        TrouserSand x = new TrouserSand();
        for (int n = 0; n < 2000; n++) {
            if (n % 15 == 0) {
                x = new TrouserSand();
            }
            int seed = random.nextInt() & 0x7fffffff;
            int people = 1 + random.nextInt(30);
            int mask = (1 << people) - 1;
            int workers = random.nextInt() & mask;
            int speak = random.nextInt() & mask;
            int first = random.nextInt(Integer.bitCount(workers) + 1);
            int speakers = Integer.bitCount(speak & ~workers);
            int then = random.nextInt(speakers + 1);
            List<Integer> left = new ArrayList<>();
            for (int p = 0; p < people; p++) {
                left.add(p);
            }
            List<Integer> due = new ArrayList<>();
            long[] s = {seed};
            draw(s, left, due, workers, first);
            draw(s, left, due, speak & ~workers, then);
            draw(s, left, due, mask, people - first - then);
            Due.is("list", x.list(seed, people, workers, first, speak, then), people);
            for (int i = 0; i < people; i++) {
                Due.is("listed(" + i + ")", x.listed(i), due.get(i));
            }
        }
    }

    private static void draw(long[] s, List<Integer> left, List<Integer> due, int group, int n) {
        for (int i = 0; i < n; i++) {
            List<Integer> of = new ArrayList<>();
            for (int p : left) {
                if ((group & 1 << p) != 0) {
                    of.add(p);
                }
            }
            s[0] = (1103515245L * s[0] + 12345L) % 2147483648L;
            Integer who = of.get((int) (s[0] / 65536 % of.size()));
            due.add(who);
            left.remove(who);
        }
    }
}
