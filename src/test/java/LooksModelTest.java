import java.util.Random;

/** Promises 23 to 25, Term III: random LOOKS and men, reckoned day by day. */
public final class LooksModelTest {
    public static void main(String[] args) {
        againstTheModel();
        Due.finish();
    }

    private static void againstTheModel() {
        Random random = new Random(25);
        for (int n = 0; n < 400; n++) {
            int air = 10 + random.nextInt(60);
            int pace = 1 + random.nextInt(50);
            int[] looks = new int[random.nextInt(5)];
            StringBuilder text = new StringBuilder("air " + air + ";pace " + pace + ";");
            for (int l = 0; l < looks.length; l++) {
                looks[l] = random.nextInt(random.nextBoolean() ? 100 : 4);
                text.append("look ").append((char) ('a' + l)).append(' ').append(looks[l]).append(';');
            }
            TrouserSand x = Due.withCamp(text.toString());
            int bits = random.nextInt(1 << looks.length);
            int men = 1 + random.nextInt(200);
            int feet = 1 + random.nextInt(300);
            int best = -1;
            int part = -1;
            for (int q = 0; q <= men / 2; q++) {
                long a = chance(looks, bits, shifts(air, pace, feet, men - q));
                long b = q == 0 ? 0 : chance(looks, bits, shifts(air, pace, feet, q));
                int both = (int) (1000000 - (1000000 - a) * (1000000 - b) / 1000000);
                if (both > best) {
                    best = both;
                    part = q;
                }
            }
            Due.is("second 0 of " + text, x.second(men, feet, bits, 0), part);
            Due.is("second 1 of " + text, x.second(men, feet, bits, 1), best);
            Due.is("needed of " + text, x.needed(feet, men), shifts(air, pace, feet, men));
            int days = random.nextInt(401);
            Due.is("kept of " + text, x.kept(bits, days), chance(looks, bits, days));
        }
    }

    static int shifts(int air, int pace, int feet, int men) {
        int dug = 0;
        int over = 0;
        for (int s = 1; s <= 400; s++) {
            int pump = dug / air;
            for (int m = pump; m < men; m++) {
                over += pace;
            }
            while (over >= 10) {
                over -= 10;
                dug++;
            }
            if (dug >= feet) {
                return s;
            }
        }
        return -1;
    }

    static int chance(int[] looks, int bits, int days) {
        if (days < 0) {
            return 0;
        }
        int kept = 1000000;
        for (int d = 0; d < days; d++) {
            for (int l = 0; l < looks.length; l++) {
                kept = (bits & 1 << l) != 0 ? kept * (100 - looks[l]) / 100 : kept;
            }
        }
        return kept;
    }
}
