import java.util.Random;

/** Promises 26 to 30: drift, string, right, where, up. */
public final class StringsTest {
    private static final int NOWHERE = -1000000;

    public static void main(String[] args) {
        drift();
        string();
        right();
        headings();
        up();
        againstTheModel();
        Due.finish();
    }

    private static void drift() {
        TrouserSand x = new TrouserSand();
        Due.is("drift(20)", x.drift(20), 0);
        Due.is("drift(21)", x.drift(21), -2);
        Due.is("drift(-1)", x.drift(-1), -2);
        Due.is("drift(0)", x.drift(0), 20);
        Due.is("drift(3)", x.drift(3), 0);
        x.string(0, 1, 0, 2);
        x.string(1, 1, 0, 0);
        x.string(1, 1, 0, 1);
        Due.is("off at 0", x.where(0, 2), 20);
        Due.is("off at 1", x.where(1, 2), 39);
        Due.is("drift(5)", x.drift(5), 3);
        Due.is("off at 1", x.where(1, 2), 45);
    }

    private static void string() {
        TrouserSand x = new TrouserSand();
        Due.is("STEP -1", x.string(-1, 1, 0, 0), -2);
        Due.is("STEP 1000", x.string(1000, 1, 0, 0), -2);
        Due.is("feet 0", x.string(0, 0, 0, 0), -2);
        Due.is("feet 100", x.string(0, 100, 0, 0), -2);
        Due.is("heading -1", x.string(0, 1, -1, 0), -2);
        Due.is("heading 8", x.string(0, 1, 8, 0), -2);
        Due.is("slack -1", x.string(0, 1, 0, -1), -2);
        Due.is("slack 10", x.string(0, 1, 0, 10), -2);
        Due.is("a STEP that was refused isn't the latest", x.string(500, 0, 0, 0), -2);
        Due.is("the first", x.string(3, 99, 7, 9), 0);
        Due.is("a STEP that falls", x.string(2, 1, 0, 0), -2);
        for (int k = 1; k < 16; k++) {
            Due.is("STRING " + k, x.string(3, 1, 0, 0), k);
        }
        Due.is("the 17th", x.string(3, 1, 0, 0), -3);
        Due.is("the 17th, wrong", x.string(3, 1, 8, 0), -2);
        Due.is("the 17th, at a later STEP", x.string(999, 1, 0, 0), -3);
        Due.is("FULL leaves the latest STEP", x.right(3, 0, 5), 1);
        Due.is("count(2)", x.count(2), 16);
    }

    private static void right() {
        TrouserSand x = new TrouserSand();
        Due.is("none there", x.right(0, 0, 1), -2);
        x.string(1, 10, 0, 0);
        x.string(1, 10, 2, 0);
        Due.is("no such STRING", x.right(1, 2, 1), -2);
        Due.is("no such STRING", x.right(1, -1, 1), -2);
        Due.is("feet 0", x.right(1, 0, 0), -2);
        Due.is("feet 100", x.right(1, 0, 100), -2);
        Due.is("a STEP that falls", x.right(0, 0, 1), -2);
        Due.is("STEP 1000", x.right(1000, 0, 1), -2);
        Due.is("at its own STEP", x.right(1, 0, 12), 1);
        Due.is("once more", x.right(1, 0, 13), 2);
        Due.is("the other", x.right(5, 1, 20), 1);
        Due.is("the first", x.right(7, 0, 1), 3);
        Due.is("a STEP that falls", x.string(6, 1, 1, 1), -2);
        Due.is("a STEP that falls", x.right(6, 1, 1), -2);
        Due.is("where(0, 0)", x.where(0, 0), 0);
        Due.is("where(1, 0)", x.where(1, 0), 130);
        Due.is("where(4, 1)", x.where(4, 1), 100);
        Due.is("where(5, 1)", x.where(5, 1), 200);
        Due.is("where(6, 0)", x.where(6, 0), 130);
        Due.is("where(7, 0)", x.where(7, 0), 10);
        Due.is("where(999, 0)", x.where(999, 0), 10);
        for (int n = 5; n <= 20; n++) {
            Due.is("the " + n + "th", x.right(8, 1, n), n - 3);
        }
        Due.is("the 21st", x.right(8, 1, 1), -3);
        Due.is("the 21st, of the other", x.right(9, 0, 1), -3);
        Due.is("the 21st, wrong", x.right(8, 1, 0), -2);
        Due.is("count(3)", x.count(3), 20);
        Due.is("FULL leaves the latest STEP", x.string(8, 1, 0, 0), 2);
    }

    private static void headings() {
        int[] along = {10, 7, 0, -7, -10, -7, 0, 7};
        int[] across = {0, 7, 10, 7, 0, -7, -10, -7};
        for (int heading = 0; heading < 8; heading++) {
            TrouserSand x = new TrouserSand();
            x.string(0, 99, heading, 0);
            Due.is("along " + heading, x.where(0, 0), 99 * along[heading]);
            Due.is("across " + heading, x.where(0, 1), 99 * across[heading]);
        }
        TrouserSand x = new TrouserSand();
        Due.is("where(-1, 0)", x.where(-1, 0), NOWHERE);
        Due.is("where(1000, 0)", x.where(1000, 0), NOWHERE);
        Due.is("where(0, 3)", x.where(0, 3), NOWHERE);
        Due.is("where(0, -1)", x.where(0, -1), NOWHERE);
        Due.is("where(0, 2)", x.where(0, 2), 0);
    }

    private static void up() {
        TrouserSand x = Due.withCamp("hut a 0 10 1;hut b 0 300 1;wood 5;");
        Due.is("up(2, 0)", x.up(2, 0), -2);
        Due.is("up(-1, 0)", x.up(-1, 0), -2);
        Due.is("up(0, -1)", x.up(0, -1), -2);
        Due.is("up(0, 1000)", x.up(0, 1000), -2);
        Due.is("no STRINGS", x.up(0, 999), 0);
        x.string(1, 10, 2, 0);
        Due.is("at the wire", x.up(0, 1), 0);
        Due.is("not known yet", x.up(0, 0), 0);
        x.right(2, 0, 11);
        Due.is("in the open", x.up(0, 2), 1);
        Due.is("of another HUT", x.up(1, 2), 0);
        x.right(3, 0, 15);
        Due.is("at the wood", x.up(0, 3), 2);
        x.right(4, 0, 14);
        Due.is("in the open", x.up(0, 4), 1);
        x.string(5, 1, 0, 1);
        Due.is("open or wood", x.up(0, 5), 3);
        x.right(6, 0, 16);
        Due.is("surely in the wood", x.up(0, 6), 2);
        x.right(7, 0, 9);
        Due.is("surely before the wire", x.up(0, 7), 0);
        x.right(8, 0, 10);
        Due.is("before the wire or not", x.up(0, 8), 3);
        x.right(9, 0, 11);
        Due.is("it may be at the wire", x.up(0, 9), 3);
        x.right(10, 0, 12);
        Due.is("surely in the open", x.up(0, 10), 1);
        x = Due.withCamp("hut a 0 10 1;wood 0;");
        x.string(1, 10, 2, 0);
        Due.is("before the wire and in the wood", x.up(0, 1), 0);
        x.string(2, 1, 2, 0);
        Due.is("no open at all", x.up(0, 2), 2);
    }

    private static void againstTheModel() {
        Random random = new Random(29);
        for (int n = 0; n < 400; n++) {
            int back = 1 + random.nextInt(60);
            int wood = random.nextInt(40);
            TrouserSand x = Due.withCamp("hut a 0 " + back + " 1;wood " + wood + ";");
            int drift = random.nextInt(5);
            x.drift(drift);
            int strings = 0;
            int step = 0;
            int[][] told = new int[40][];
            int tellings = 0;
            for (int i = 0; i < 18; i++) {
                step += random.nextInt(3);
                if (strings > 0 && random.nextInt(3) == 0) {
                    told[tellings++] = new int[] {step, random.nextInt(strings), 1 + random.nextInt(30), -1, -1};
                    x.right(step, told[tellings - 1][1], told[tellings - 1][2]);
                } else if (strings < 16) {
                    told[tellings++] = new int[] {step, strings++, 1 + random.nextInt(20), random.nextInt(8),
                        random.nextInt(3)};
                    int[] t = told[tellings - 1];
                    x.string(step, t[2], t[3], t[4]);
                }
            }
            for (int known = 0; known <= step + 1; known++) {
                check(x, told, tellings, known, drift, back, wood);
            }
        }
    }

    private static void check(TrouserSand x, int[][] told, int tellings, int known, int drift, int back, int wood) {
        int[] dx = {10, 7, 0, -7, -10, -7, 0, 7};
        int[] dy = {0, 7, 10, 7, 0, -7, -10, -7};
        int[] feet = new int[16];
        int[] heading = new int[16];
        int[] slack = new int[16];
        int length = 0;
        for (int i = 0; i < tellings && told[i][0] <= known; i++) {
            int k = told[i][1];
            feet[k] = told[i][2];
            if (told[i][3] >= 0) {
                heading[k] = told[i][3];
                slack[k] = told[i][4];
                length++;
            }
        }
        int along = 0;
        int across = 0;
        int off = 0;
        for (int k = 0; k < length; k++) {
            along += feet[k] * dx[heading[k]];
            across += feet[k] * dy[heading[k]];
            off += 10 * slack[k];
            for (int ahead = 0; ahead < k; ahead++) {
                off += drift;
            }
        }
        Due.is("along", x.where(known, 0), along);
        Due.is("across", x.where(known, 1), across);
        Due.is("off", x.where(known, 2), off);
        boolean before = true;
        boolean open = true;
        boolean inWood = true;
        for (int y = across - off - 10 * back; y <= across + off - 10 * back; y++) {
            before &= y <= 0;
            open &= y > 0 && y < 10 * wood;
            inWood &= y >= 10 * wood;
        }
        Due.is("up", x.up(0, known), before ? 0 : open ? 1 : inWood ? 2 : 3);
    }
}
