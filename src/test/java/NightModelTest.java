import java.util.Random;

/** Promises 34 to 36, Term V: random nights, with each ORDER tried minute by minute. */
public final class NightModelTest {
    public static void main(String[] args) {
        againstTheModel();
        Due.finish();
    }

    private static void againstTheModel() {
        Random random = new Random(35);
        for (int n = 0; n < 400; n++) {
            TrouserSand x = new TrouserSand();
            int people = random.nextInt(n % 20 == 0 ? 9 : 7);
            int[] needs = new int[people];
            for (int p = 0; p < people; p++) {
                int minutes = 1 + random.nextInt(random.nextBoolean() ? 20 : 4);
                int bag = random.nextInt(2);
                needs[p] = minutes + 3 * bag;
                x.join(minutes, bag);
            }
            boolean[] closed = new boolean[2000];
            for (int r = 0; r < 6; r++) {
                int from = random.nextInt(90);
                int to = from + 1 + random.nextInt(8);
                if (x.round(from, to) >= 0) {
                    for (int m = from; m < to; m++) {
                        closed[m] = true;
                    }
                }
            }
            Model model = new Model(needs, closed);
            for (int i = 0; i < 4; i++) {
                int limit = random.nextInt(130);
                model.find(limit);
                Due.is("best(" + limit + ")", x.best(limit), model.bestLength);
                for (int k = 0; k <= people; k++) {
                    boolean on = k < model.bestLength;
                    Due.is("goes(" + k + ", 0)", x.goes(k, 0), on ? model.best[k] : -1);
                    Due.is("goes(" + k + ", 1)", x.goes(k, 1), on ? model.bestOut[k] : -1);
                }
            }
        }
    }

    /** Tries each ORDER, minute by minute. */
    static final class Model {
        private final int[] needs;
        private final boolean[] closed;
        private final int[] row = new int[8];
        private final int[] out = new int[8];
        private int limit;
        int[] best = new int[8];
        int[] bestOut = new int[8];
        int bestLength;
        private int done;

        Model(int[] needs, boolean[] closed) {
            this.needs = needs;
            this.closed = closed;
        }

        void find(int t) {
            limit = t;
            bestLength = 0;
            done = 0;
            go(0, 0, 0);
        }

        private void go(int length, int used, int minute) {
            if (minute > limit) {
                return;
            }
            // Rows are come to from the least on: an equal one isn't better.
            if (length > bestLength || length == bestLength && minute < done) {
                bestLength = length;
                done = minute;
                best = row.clone();
                bestOut = out.clone();
            }
            for (int p = 0; p < needs.length; p++) {
                if ((used & 1 << p) == 0) {
                    row[length] = p;
                    out[length] = leaves(minute, needs[p]);
                    go(length + 1, used | 1 << p, out[length]);
                }
            }
        }

        int leaves(int minute, int need) {
            int free = 0;
            int m = minute;
            while (free < need) {
                free = closed[m] ? 0 : free + 1;
                m++;
            }
            return m;
        }
    }
}
