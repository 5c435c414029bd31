import java.util.Random;

/** Promises 23 to 25: kept, needed, second. */
public final class LooksTest {
    public static void main(String[] args) {
        kept();
        needed();
        second();
        againstTheModel();
        Due.finish();
    }

    private static void kept() {
        TrouserSand x = Due.withCamp("look a 50;look b 10;look c 0;look d 99;");
        Due.is("kept(0, 400)", x.kept(0, 400), 1000000);
        Due.is("kept(15, 0)", x.kept(15, 0), 1000000);
        Due.is("kept(1, 1)", x.kept(1, 1), 500000);
        Due.is("kept(1, 7)", x.kept(1, 7), 7812);
        Due.is("kept(3, 2)", x.kept(3, 2), 202500);
        Due.is("kept(2, 7)", x.kept(2, 7), 478296);
        Due.is("kept(4, 400)", x.kept(4, 400), 1000000);
        Due.is("kept(8, 1)", x.kept(8, 1), 10000);
        Due.is("kept(8, 4)", x.kept(8, 4), 0);
        Due.is("kept(15, 400)", x.kept(15, 400), 0);
        Due.is("kept(16, 1)", x.kept(16, 1), -2);
        Due.is("kept(-1, 1)", x.kept(-1, 1), -2);
        Due.is("kept(1, -1)", x.kept(1, -1), -2);
        Due.is("kept(1, 401)", x.kept(1, 401), -2);
        Due.is("kept(2, 1) of one LOOK", Due.withCamp("look a 50;").kept(2, 1), -2);
        // Each LOOK is cut by itself, in the order of their numbers.
        x = Due.withCamp("look a 99;look b 33;");
        Due.is("kept(3, 2)", x.kept(3, 2), 44);
        x = Due.withCamp("look b 33;look a 99;");
        Due.is("kept(3, 2)", x.kept(3, 2), 44);
    }

    private static void needed() {
        TrouserSand x = Due.withCamp("air 10;pace 5;");
        Due.is("needed(1, 1)", x.needed(1, 1), 2);
        Due.is("needed(1, 2)", x.needed(1, 2), 1);
        Due.is("needed(10, 1)", x.needed(10, 1), 20);
        Due.is("needed(11, 1)", x.needed(11, 1), -1);
        Due.is("needed(11, 2)", x.needed(11, 2), 12);
        Due.is("needed(999, 200)", x.needed(999, 200), 14);
        Due.is("needed(1, 0)", x.needed(1, 0), -1);
        Due.is("needed(0, 1)", x.needed(0, 1), -2);
        Due.is("needed(1000, 1)", x.needed(1000, 1), -2);
        Due.is("needed(1, -1)", x.needed(1, -1), -2);
        Due.is("needed(1, 201)", x.needed(1, 201), -2);
        x = Due.withCamp("air 200;pace 1;");
        Due.is("just by 400", x.needed(40, 1), 400);
        Due.is("not by 400", x.needed(41, 1), -1);
        // Neither boards nor falls count.
        x = Due.withCamp("board 9;fall 50;pace 10;");
        Due.is("needed(30, 3)", x.needed(30, 3), 10);
    }

    private static void second() {
        TrouserSand x = Due.withCamp("look a 50;air 10;pace 10;");
        Due.is("second(4, 5, 1, 0)", x.second(4, 5, 1, 0), 1);
        Due.is("second(4, 5, 1, 1)", x.second(4, 5, 1, 1), 273438);
        Due.is("of alike ones the least", x.second(200, 999, 0, 0), 0);
        Due.is("sure", x.second(200, 999, 0, 1), 1000000);
        Due.is("one man", x.second(1, 11, 0, 0), 0);
        Due.is("one man who can't", x.second(1, 11, 0, 1), 0);
        Due.is("second(0, ..)", x.second(0, 5, 1, 0), -2);
        Due.is("second(201, ..)", x.second(201, 5, 1, 0), -2);
        Due.is("feet 0", x.second(4, 0, 1, 0), -2);
        Due.is("feet 1000", x.second(4, 1000, 1, 0), -2);
        Due.is("looks 2", x.second(4, 5, 2, 0), -2);
        Due.is("looks -1", x.second(4, 5, -1, 0), -2);
        Due.is("what 2", x.second(4, 5, 1, 2), -2);
        Due.is("what -1", x.second(4, 5, 1, -1), -2);
    }

    private static void againstTheModel() {
        Random random = new Random(25);
        for (int n = 0; n < 400; n++) {
            int air = 10 + random.nextInt(60);
            int pace = 1 + random.nextInt(50);
            int[] looks = new int[random.nextInt(5)];
            StringBuilder text = new StringBuilder("air " + air + ";pace " + pace + ";");
            for (int l = 0; l < looks.length; l++) {
                looks[l] = random.nextInt(random.nextBoolean() ? 100 : 4);
                text.append("look ").append((char) ('a' + l)).append(' ').append(looks[l]).append(';');
            }
            TrouserSand x = Due.withCamp(text.toString());
            int bits = random.nextInt(1 << looks.length);
            int men = 1 + random.nextInt(200);
            int feet = 1 + random.nextInt(300);
            int best = -1;
            int part = -1;
            for (int q = 0; q <= men / 2; q++) {
                long a = chance(looks, bits, shifts(air, pace, feet, men - q));
                long b = q == 0 ? 0 : chance(looks, bits, shifts(air, pace, feet, q));
                int both = (int) (1000000 - (1000000 - a) * (1000000 - b) / 1000000);
                if (both > best) {
                    best = both;
                    part = q;
                }
            }
            Due.is("second 0 of " + text, x.second(men, feet, bits, 0), part);
            Due.is("second 1 of " + text, x.second(men, feet, bits, 1), best);
            Due.is("needed of " + text, x.needed(feet, men), shifts(air, pace, feet, men));
            int days = random.nextInt(401);
            Due.is("kept of " + text, x.kept(bits, days), chance(looks, bits, days));
        }
    }

    private static int shifts(int air, int pace, int feet, int men) {
        int dug = 0;
        int over = 0;
        for (int s = 1; s <= 400; s++) {
            int pump = dug / air;
            for (int m = pump; m < men; m++) {
                over += pace;
            }
            while (over >= 10) {
                over -= 10;
                dug++;
            }
            if (dug >= feet) {
                return s;
            }
        }
        return -1;
    }

    private static int chance(int[] looks, int bits, int days) {
        if (days < 0) {
            return 0;
        }
        int kept = 1000000;
        for (int d = 0; d < days; d++) {
            for (int l = 0; l < looks.length; l++) {
                kept = (bits & 1 << l) != 0 ? kept * (100 - looks[l]) / 100 : kept;
            }
        }
        return kept;
    }
}
