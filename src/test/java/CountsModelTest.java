import java.util.ArrayList;
import java.util.List;
import java.util.Random;

/** Promises 21 and 22, Term III: random counts, with each way tried in which they can be made RIGHT. */
public final class CountsModelTest {
    public static void main(String[] args) {
        againstTheModel();
        Due.finish();
    }

    private static void againstTheModel() {
        Random random = new Random(21);
        for (int n = 0; n < 1500; n++) {
            int huts = 1 + random.nextInt(5);
            int[] men = new int[huts];
            int[] minute = new int[huts];
            int[] gone = new int[huts];
            int[][] run = new int[huts][huts];
            StringBuilder text = new StringBuilder();
            int spread = 1 + random.nextInt(40);
            for (int h = 0; h < huts; h++) {
                men[h] = 1 + random.nextInt(4);
                minute[h] = random.nextInt(6) == 0 ? -1 : random.nextInt(spread);
                text.append("hut ").append((char) ('a' + h)).append(" 0 1 ").append(men[h]).append(';');
                if (minute[h] >= 0) {
                    text.append("count ").append((char) ('a' + h)).append(' ').append(minute[h]).append(';');
                }
                for (int o = 0; o < h; o++) {
                    boolean isTold = random.nextInt(4) != 0;
                    run[h][o] = isTold ? random.nextInt(15) : 5;
                    run[o][h] = run[h][o];
                    if (isTold) {
                        text.append("run ").append((char) ('a' + h)).append(' ').append((char) ('a' + o)).append(' ')
                            .append(run[h][o]).append(';');
                    }
                }
            }
            TrouserSand x = Due.withCamp(text.toString());
            int all = 0;
            for (int h = 0; h < huts; h++) {
                gone[h] = random.nextInt(2) == 0 ? 0 : random.nextInt(men[h] + 1);
                if (minute[h] >= 0 && all + gone[h] > 6) {
                    gone[h] = 0;
                }
                all += minute[h] >= 0 ? gone[h] : 0;
                x.gone(h, gone[h]);
            }
            Model model = new Model(men, gone, run);
            // Neither may need what the other left behind.
            if (n % 2 == 0) {
                Due.is("wrong() of " + text, x.wrong(), model.wrongOrders(minute));
            }
            Due.is("runners() of " + text, x.runners(), model.fewest(minute));
            Due.is("wrong() of " + text, x.wrong(), model.wrongOrders(minute));
        }
    }

    /** Goes from HUT to HUT as they are counted, and tries each way to fill them. */
    private static final class Model {
        private final int[] men;
        private final int[] gone;
        private final int[][] run;
        private int[] minute;
        private List<Integer> row;
        private int best;

        Model(int[] men, int[] gone, int[][] run) {
            this.men = men;
            this.gone = gone;
            this.run = run;
        }

        int fewest(int[] minutes) {
            minute = minutes;
            row = new ArrayList<>();
            for (int m = 0; m < 100; m++) {
                for (int h = 0; h < men.length; h++) {
                    if (minute[h] == m) {
                        row.add(h);
                    }
                }
            }
            best = Integer.MAX_VALUE;
            fill(0, gone.length > 0 && !row.isEmpty() ? gone[row.get(0)] : 0, 0, new int[men.length], new int[men.length], 0);
            return best == Integer.MAX_VALUE ? -1 : best;
        }

        /** begun and standing: of each HUT those who have left it, who lived there and who stood there for others. */
        private void fill(int i, int open, int from, int[] begun, int[] left, int runners) {
            if (runners >= best) {
                return;
            }
            if (i >= row.size()) {
                best = runners;
                return;
            }
            if (open == 0) {
                fill(i + 1, i + 1 < row.size() ? gone[row.get(i + 1)] : 0, 0, begun, left, runners);
                return;
            }
            int to = row.get(i);
            // Who comes for one place comes from no earlier HUT than who came for the place ahead.
            for (int j = from; j < i; j++) {
                int h = row.get(j);
                if (minute[to] - minute[h] < run[h][to]) {
                    continue;
                }
                if (left[h] < gone[h]) {
                    left[h]++;
                    fill(i, open - 1, j, begun, left, runners);
                    left[h]--;
                }
                if (begun[h] < men[h] - gone[h]) {
                    begun[h]++;
                    fill(i, open - 1, j, begun, left, runners + 1);
                    begun[h]--;
                }
            }
        }

        int wrongOrders(int[] minutes) {
            List<Integer> counted = new ArrayList<>();
            for (int h = 0; h < minutes.length; h++) {
                if (minutes[h] >= 0) {
                    counted.add(h);
                }
            }
            return permute(minutes, counted, new ArrayList<>(counted), minutes.clone());
        }

        private int permute(int[] minutes, List<Integer> counted, List<Integer> left, int[] given) {
            if (left.isEmpty()) {
                return fewest(given.clone()) < 0 ? 1 : 0;
            }
            int wrong = 0;
            int h = counted.get(counted.size() - left.size());
            for (int i = 0; i < left.size(); i++) {
                List<Integer> rest = new ArrayList<>(left);
                given[h] = minutes[rest.remove(i)];
                wrong += permute(minutes, counted, rest, given);
            }
            return wrong;
        }
    }
}
