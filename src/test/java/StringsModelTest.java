import java.util.Random;

/** Promises 27 to 30, Term IV: random tellings, told again up to each STEP. */
public final class StringsModelTest {
    public static void main(String[] args) {
        againstTheModel();
        Due.finish();
    }

    private static void againstTheModel() {
        Random random = new Random(29);
        for (int n = 0; n < 400; n++) {
            int back = 1 + random.nextInt(60);
            int wood = random.nextInt(40);
            TrouserSand x = Due.withCamp("hut a 0 " + back + " 1;wood " + wood + ";");
            int drift = random.nextInt(5);
            x.drift(drift);
            int strings = 0;
            int step = 0;
            int[][] told = new int[40][];
            int tellings = 0;
            for (int i = 0; i < 18; i++) {
                step += random.nextInt(3);
                if (strings > 0 && random.nextInt(3) == 0) {
                    told[tellings++] = new int[] {step, random.nextInt(strings), 1 + random.nextInt(30), -1, -1};
                    x.right(step, told[tellings - 1][1], told[tellings - 1][2]);
                } else if (strings < 16) {
                    told[tellings++] = new int[] {step, strings++, 1 + random.nextInt(20), random.nextInt(8),
                        random.nextInt(3)};
                    int[] t = told[tellings - 1];
                    x.string(step, t[2], t[3], t[4]);
                }
            }
            for (int known = 0; known <= step + 1; known++) {
                check(x, told, tellings, known, drift, back, wood);
            }
        }
    }

    private static void check(TrouserSand x, int[][] told, int tellings, int known, int drift, int back, int wood) {
        int[] dx = {10, 7, 0, -7, -10, -7, 0, 7};
        int[] dy = {0, 7, 10, 7, 0, -7, -10, -7};
        int[] feet = new int[16];
        int[] heading = new int[16];
        int[] slack = new int[16];
        int length = 0;
        for (int i = 0; i < tellings && told[i][0] <= known; i++) {
            int k = told[i][1];
            feet[k] = told[i][2];
            if (told[i][3] >= 0) {
                heading[k] = told[i][3];
                slack[k] = told[i][4];
                length++;
            }
        }
        int along = 0;
        int across = 0;
        int off = 0;
        for (int k = 0; k < length; k++) {
            along += feet[k] * dx[heading[k]];
            across += feet[k] * dy[heading[k]];
            off += 10 * slack[k];
            for (int ahead = 0; ahead < k; ahead++) {
                off += drift;
            }
        }
        Due.is("along", x.where(known, 0), along);
        Due.is("across", x.where(known, 1), across);
        Due.is("off", x.where(known, 2), off);
        boolean before = true;
        boolean open = true;
        boolean inWood = true;
        for (int y = across - off - 10 * back; y <= across + off - 10 * back; y++) {
            before &= y <= 0;
            open &= y > 0 && y < 10 * wood;
            inWood &= y >= 10 * wood;
        }
        Due.is("up", x.up(0, known), before ? 0 : open ? 1 : inWood ? 2 : 3);
    }
}
