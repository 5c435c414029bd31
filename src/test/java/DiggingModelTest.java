import java.util.Random;

/** Promises 10 to 17, Term II: random SHIFTS and random GARDENS, reckoned foot by foot and half pound by half pound. */
public final class DiggingModelTest {
    public static void main(String[] args) {
        mostAgainstTheModel();
        shiftsAgainstTheModel();
        Due.finish();
    }

    private static void mostAgainstTheModel() {
        Random random = new Random(16);
        for (int n = 0; n < 400; n++) {
            int huts = 1 + random.nextInt(5);
            int gardens = random.nextInt(5);
            StringBuilder text = new StringBuilder("pace 10;board 0;");
            int reach = random.nextInt(300);
            int walk = 1 + random.nextInt(4);
            text.append("reach ").append(reach).append(";walk ").append(walk).append(";sand 3;");
            int[] hx = new int[huts];
            int[] back = new int[huts];
            int[] men = new int[huts];
            for (int h = 0; h < huts; h++) {
                hx[h] = random.nextInt(401);
                back[h] = 1 + random.nextInt(100);
                men[h] = 1 + random.nextInt(4);
                text.append("hut ").append((char) ('a' + h)).append(' ').append(hx[h]).append(' ').append(back[h])
                    .append(' ').append(men[h]).append(';');
            }
            int[] gx = new int[gardens];
            int[] day = new int[gardens];
            int[] all = new int[gardens];
            for (int g = 0; g < gardens; g++) {
                gx[g] = random.nextInt(401);
                day[g] = random.nextInt(10);
                all[g] = random.nextInt(60);
                text.append("garden ").append((char) ('a' + g)).append(' ').append(gx[g]).append(' ').append(day[g])
                    .append(' ').append(all[g]).append(';');
            }
            TrouserSand x = Due.withCamp(text.toString());
            int[] sand = new int[huts];
            for (int t = 0; t < 3; t++) {
                int h = random.nextInt(huts);
                int m = 1 + random.nextInt(9);
                x.open(h);
                x.shift(t, m);
                sand[h] += 3 * m;
            }
            int total = 0;
            boolean[][] way = new boolean[huts][gardens];
            for (int h = 0; h < huts; h++) {
                total += sand[h];
                for (int g = 0; g < gardens; g++) {
                    way[h][g] = Math.abs(hx[h] - gx[g]) + back[h] <= reach;
                }
            }
            int until = -1;
            for (int d = 1; d < 100; d++) {
                int[] from = new int[huts];
                int[] to = new int[gardens];
                for (int h = 0; h < huts; h++) {
                    from[h] = Math.min(sand[h], men[h] * walk * d);
                }
                for (int g = 0; g < gardens; g++) {
                    to[g] = Math.min(all[g], day[g] * d);
                }
                int most = Flow.greatest(from, to, way);
                Due.is("most(" + d + ") of " + text, x.most(d), most);
                if (until < 0 && most == total) {
                    until = d;
                }
            }
            Due.is("until() of " + text, x.until(), until);
        }
    }

    private static void shiftsAgainstTheModel() {
        Random random = new Random(10);
        for (int n = 0; n < 500; n++) {
            int has = random.nextInt(21);
            int keeps = random.nextInt(21);
            int board = random.nextInt(10);
            int air = 10 + random.nextInt(30);
            int pace = 1 + random.nextInt(50);
            int fall = random.nextInt(51);
            int sand = 1 + random.nextInt(99);
            TrouserSand x = Due.withCamp("hut a 0 1 40;hut b 1 1 33;bed " + has + " " + keeps + ";board " + board + ";air "
                + air + ";pace " + pace + ";fall " + fall + ";sand " + sand + ";");
            int[] home = {0, 1, 1};
            int[] feet = new int[3];
            int[] tenths = new int[3];
            int[] lies = new int[2];
            int left = 73 * Math.max(0, has - keeps);
            for (int t = 0; t < 3; t++) {
                x.open(home[t]);
            }
            long seed = random.nextInt() & 0x7fffffff;
            x.chance((int) seed);
            for (int i = 0; i < 40; i++) {
                int t = random.nextInt(3);
                int men = 1 + random.nextInt(20);
                for (int m = feet[t] / air; m < men; m++) {
                    tenths[t] += pace;
                }
                int dug = 0;
                while (tenths[t] >= 10) {
                    tenths[t] -= 10;
                    if (left >= board) {
                        left -= board;
                        dug++;
                    }
                }
                lies[home[t]] += dug * sand;
                boolean falls = false;
                if (fall > 0) {
                    seed = (1103515245L * seed + 12345L) & 0x7fffffffL;
                    falls = (seed >> 16) % 100 < fall;
                }
                feet[t] += falls ? 0 : dug;
                Due.is("shift(" + t + ", " + men + ")", x.shift(t, men), feet[t]);
                Due.is("boards()", x.boards(), left);
                Due.is("lies", x.lies(home[t]), lies[home[t]]);
                Due.is("tenths", x.tunnel(t, 2), tenths[t]);
            }
        }
    }
}
