import java.util.Random;

/** Promise 39, Term V: random camps, met foot by foot. */
public final class GuardsModelTest {
    public static void main(String[] args) {
        acrossAgainstTheModel();
        Due.finish();
    }

    private static void acrossAgainstTheModel() {
        Random random = new Random(39);
        for (int n = 0; n < 300; n++) {
            int wide = 10 + random.nextInt(391);
            int huts = random.nextInt(6);
            StringBuilder text = new StringBuilder("wide " + wide + ";");
            int[] hx = new int[huts];
            int[] men = new int[huts];
            for (int h = 0; h < huts; h++) {
                hx[h] = random.nextInt(401);
                men[h] = 1 + random.nextInt(40);
                text.append("hut ").append((char) ('a' + h)).append(' ').append(hx[h]).append(" 5 ").append(men[h])
                    .append(';');
            }
            TrouserSand x = Due.withCamp(text.toString());
            for (int i = 0; i < 4; i++) {
                int feet = random.nextInt(wide + 1);
                int spread = random.nextInt(random.nextBoolean() ? 201 : 20);
                int[] weight = new int[wide + 1];
                for (int h = 0; h < huts; h++) {
                    for (int f = hx[h] - spread; f <= hx[h] + spread; f++) {
                        if (f >= 0 && f <= wide) {
                            weight[f] += men[h];
                        }
                    }
                }
                int best = -1;
                int where = -1;
                for (int from = 0; from + feet <= wide; from++) {
                    int sum = 0;
                    for (int f = from; f <= from + feet; f++) {
                        sum += weight[f];
                    }
                    if (sum > best) {
                        best = sum;
                        where = from;
                    }
                }
                Due.is("across x of " + text, x.across(feet, spread, 0), where);
                Due.is("across sum of " + text, x.across(feet, spread, 1), best);
            }
        }
    }
}
