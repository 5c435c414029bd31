import java.util.Random;

/** Promises 39 and 40: across, count. */
public final class GuardsTest {
    public static void main(String[] args) {
        across();
        acrossAgainstTheModel();
        count();
        Due.finish();
    }

    private static void across() {
        TrouserSand x = Due.withCamp("hut a 10 20 4;hut b 30 20 3;wide 50;");
        Due.is("feet -1", x.across(-1, 0, 0), -2);
        Due.is("feet 51", x.across(51, 0, 0), -2);
        Due.is("spread -1", x.across(0, -1, 0), -2);
        Due.is("spread 201", x.across(0, 201, 0), -2);
        Due.is("what -1", x.across(0, 0, -1), -2);
        Due.is("what 2", x.across(0, 0, 2), -2);
        Due.is("one foot", x.across(0, 0, 0), 10);
        Due.is("one foot", x.across(0, 0, 1), 4);
        Due.is("both", x.across(20, 0, 0), 10);
        Due.is("both", x.across(20, 0, 1), 7);
        Due.is("all", x.across(50, 200, 0), 0);
        Due.is("those beyond are lost", x.across(50, 200, 1), 51 * 7);
        Due.is("of alike ones the least", x.across(3, 200, 0), 0);
        x = Due.withCamp("hut a 400 20 40;wide 10;");
        Due.is("a HUT beyond", x.across(10, 200, 1), 0);
        x = new TrouserSand();
        Due.is("no HUTS", x.across(200, 0, 1), 0);
        Due.is("no HUTS", x.across(0, 200, 0), 0);
        Due.is("wide is 200", x.across(201, 0, 0), -2);
    }

    private static void acrossAgainstTheModel() {
        Random random = new Random(39);
        for (int n = 0; n < 300; n++) {
            int wide = 10 + random.nextInt(391);
            int huts = random.nextInt(6);
            StringBuilder text = new StringBuilder("wide " + wide + ";");
            int[] hx = new int[huts];
            int[] men = new int[huts];
            for (int h = 0; h < huts; h++) {
                hx[h] = random.nextInt(401);
                men[h] = 1 + random.nextInt(40);
                text.append("hut ").append((char) ('a' + h)).append(' ').append(hx[h]).append(" 5 ").append(men[h])
                    .append(';');
            }
            TrouserSand x = Due.withCamp(text.toString());
            for (int i = 0; i < 4; i++) {
                int feet = random.nextInt(wide + 1);
                int spread = random.nextInt(random.nextBoolean() ? 201 : 20);
                int[] weight = new int[wide + 1];
                for (int h = 0; h < huts; h++) {
                    for (int f = hx[h] - spread; f <= hx[h] + spread; f++) {
                        if (f >= 0 && f <= wide) {
                            weight[f] += men[h];
                        }
                    }
                }
                int best = -1;
                int where = -1;
                for (int from = 0; from + feet <= wide; from++) {
                    int sum = 0;
                    for (int f = from; f <= from + feet; f++) {
                        sum += weight[f];
                    }
                    if (sum > best) {
                        best = sum;
                        where = from;
                    }
                }
                Due.is("across x of " + text, x.across(feet, spread, 0), where);
                Due.is("across sum of " + text, x.across(feet, spread, 1), best);
            }
        }
    }

    private static void count() {
        TrouserSand x = Due.withCamp("hut a 0 1 4;hut b 0 1 5;count a 3;");
        x.open(0);
        x.open(1);
        x.string(0, 1, 0, 0);
        x.string(0, 1, 0, 0);
        x.string(0, 1, 0, 0);
        x.right(0, 1, 2);
        x.right(0, 1, 2);
        x.right(0, 1, 2);
        x.right(0, 2, 2);
        for (int i = 0; i < 5; i++) {
            x.join(1, 0);
        }
        x.round(3, 4);
        x.gone(0, 3);
        x.gone(1, 4);
        x.feed(0, 0, 0, 0, 0);
        x.end(9);
        int[] due = {3, 2, 3, 4, 5, 1, 7, 9};
        for (int what = 0; what < due.length; what++) {
            Due.is("count(" + what + ")", x.count(what), due[what]);
        }
        Due.is("count(8)", x.count(8), -1);
        Due.is("count(-1)", x.count(-1), -1);
        Due.is("count(least)", x.count(Integer.MIN_VALUE), -1);
    }
}
