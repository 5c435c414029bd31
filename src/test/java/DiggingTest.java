import java.util.Random;

/** Promises 8 to 19: chance to take. */
public final class DiggingTest {
    public static void main(String[] args) {
        chance();
        open();
        shifts();
        boards();
        falls();
        carry();
        most();
        callsMixed();
        mostAgainstTheModel();
        slots();
        shiftsAgainstTheModel();
        Due.finish();
    }

    private static void chance() {
        TrouserSand x = Due.withCamp("hut a 0 1 40;board 0;pace 10;fall 50;");
        Due.is("chance(-1)", x.chance(-1), -2);
        Due.is("chance(least)", x.chance(Integer.MIN_VALUE), -2);
        x.open(0);
        int[] seeds = {0, 1, 2147483647, 77, 12345678};
        for (int seed : seeds) {
            Due.is("chance(" + seed + ")", x.chance(seed), 1);
            long s = seed;
            for (int i = 0; i < 20; i++) {
                s = (1103515245L * s + 12345L) % 2147483648L;
                int before = x.tunnel(0, 4);
                x.shift(0, 1);
                Due.is("a fall by seed " + seed, x.tunnel(0, 4) - before, s / 65536 % 100 < 50 ? 1 : 0);
            }
        }
        // A wrong seed leaves THE CHANCE as it was.
        x.chance(1);
        x.chance(-5);
        int before = x.tunnel(0, 4);
        x.shift(0, 1);
        x.shift(0, 1);
        Due.is("38 of 100, then 58", x.tunnel(0, 4), before + 1);
    }

    private static void open() {
        TrouserSand x = Due.withCamp("hut a 0 1 40;hut b 0 1 40;");
        Due.is("open(2)", x.open(2), -2);
        Due.is("open(-1)", x.open(-1), -2);
        Due.is("open(1)", x.open(1), 0);
        Due.is("open(1)", x.open(1), 1);
        Due.is("open(0)", x.open(0), 2);
        Due.is("count(1)", x.count(1), 3);
        Due.is("open(0)", x.open(0), -3);
        Due.is("open(2)", x.open(2), -2);
        Due.is("tunnel(0, 0)", x.tunnel(0, 0), 1);
        Due.is("tunnel(2, 0)", x.tunnel(2, 0), 0);
        Due.is("tunnel(3, 0)", x.tunnel(3, 0), -2);
        Due.is("tunnel(-1, 0)", x.tunnel(-1, 0), -2);
        Due.is("tunnel(0, 6)", x.tunnel(0, 6), -2);
        Due.is("tunnel(0, -1)", x.tunnel(0, -1), -2);
        Due.is("lies(2)", x.lies(2), -2);
        Due.is("lies(-1)", x.lies(-1), -2);
        Due.is("had(0)", x.had(0), -2);
        Due.is("shift(3, 1)", x.shift(3, 1), -2);
        Due.is("shift(-1, 1)", x.shift(-1, 1), -2);
        Due.is("shift(0, 0)", x.shift(0, 0), -2);
        Due.is("shift(0, 100)", x.shift(0, 100), -2);
        Due.is("SHIFTS that were none", x.tunnel(0, 3), 0);
        Due.is("shift(0, 99)", x.shift(0, 99), 49);
        Due.is("tunnel(0, 2)", x.tunnel(0, 2), 5);
        Due.is("shift(0, 1)", x.shift(0, 1), 50);
        Due.is("tunnel(0, 2)", x.tunnel(0, 2), 0);
    }

    private static void shifts() {
        TrouserSand x = Due.withCamp("hut a 0 1 40;hut b 0 1 40;board 0;air 10;pace 7;sand 3;");
        x.open(1);
        Due.is("shift(0, 1)", x.shift(0, 1), 0);
        Due.is("tenths", x.tunnel(0, 2), 7);
        Due.is("shift(0, 2)", x.shift(0, 2), 2);
        Due.is("tenths", x.tunnel(0, 2), 1);
        Due.is("sand", x.lies(1), 6);
        Due.is("sand of the other", x.lies(0), 0);
        Due.is("shift(0, 15)", x.shift(0, 15), 12);
        Due.is("pump", x.tunnel(0, 5), 1);
        Due.is("one at the pump alone", x.shift(0, 1), 12);
        Due.is("tenths stay", x.tunnel(0, 2), 6);
        Due.is("shift(0, 2)", x.shift(0, 2), 13);
        Due.is("shift(0, 99)", x.shift(0, 99), 81);
        Due.is("pump", x.tunnel(0, 5), 8);
        Due.is("fewer than the pump takes", x.shift(0, 3), 81);
        Due.is("SHIFTS", x.tunnel(0, 3), 7);
        Due.is("sand", x.lies(1), 243);
        Due.is("boards of none are used", x.boards(), 320);
    }

    private static void boards() {
        TrouserSand x = Due.withCamp("hut a 0 1 3;hut b 0 1 2;bed 7 4;board 4;pace 10;");
        Due.is("boards()", x.boards(), 15);
        x.open(0);
        Due.is("shift(0, 2)", x.shift(0, 2), 2);
        Due.is("boards()", x.boards(), 7);
        Due.is("no more than boards bear", x.shift(0, 3), 3);
        Due.is("boards()", x.boards(), 3);
        Due.is("no foot for 3 boards", x.shift(0, 3), 3);
        Due.is("boards()", x.boards(), 3);
        Due.is("sand", x.lies(0), 30);
        Due.is("what is more is lost", x.tunnel(0, 2), 0);
        Due.is("SHIFTS", x.tunnel(0, 3), 3);
        x = Due.withCamp("hut a 0 1 3;bed 4 7;board 1;pace 15;");
        Due.is("0 at least", x.boards(), 0);
        x.open(0);
        Due.is("shift", x.shift(0, 1), 0);
        Due.is("tenths over", x.tunnel(0, 2), 5);
        Due.is("shift", x.shift(0, 1), 0);
        Due.is("tenths over", x.tunnel(0, 2), 0);
        Due.is("no sand", x.lies(0), 0);
        x = Due.withCamp("hut a 0 1 40;hut b 0 1 40;hut c 0 1 40;hut d 0 1 40;hut e 0 1 40;bed 20 0;");
        Due.is("all boards", x.boards(), 4000);
        x = Due.withCamp("hut a 0 1 3;");
        Due.is("untold beds", x.boards(), 12);
    }

    private static void falls() {
        TrouserSand x = Due.withCamp("hut a 0 1 10;board 1;pace 13;fall 39;sand 2;");
        x.open(0);
        x.chance(1);
        // 38 of 100 is drawn first, then 58.
        Due.is("a fall", x.shift(0, 2), 0);
        Due.is("falls", x.tunnel(0, 4), 1);
        Due.is("boards are used", x.boards(), 38);
        Due.is("sand comes up", x.lies(0), 4);
        Due.is("tenths over stay", x.tunnel(0, 2), 6);
        Due.is("no fall", x.shift(0, 2), 3);
        Due.is("falls", x.tunnel(0, 4), 1);
        x = Due.withCamp("hut a 0 1 10;board 1;pace 13;fall 38;sand 2;");
        x.open(0);
        Due.is("38 isn't below 38", x.shift(0, 2), 2);
        Due.is("falls", x.tunnel(0, 4), 0);
        // Without a fall nothing is drawn.
        x = Due.withCamp("hut a 0 1 10;pace 10;");
        x.open(0);
        x.shift(0, 1);
        Due.camp(x, "hut a 0 1 10;pace 10;fall 39;");
        x.open(0);
        Due.is("38 of 100 is drawn now", x.shift(0, 1), 0);
    }

    private static void carry() {
        TrouserSand x = Due.withCamp("hut a 100 50 10;garden g 150 5 60;garden h 151 5 60;garden i 49 5 60;garden j 50 0 0;"
            + "reach 100;sand 10;pace 10;");
        x.open(0);
        x.shift(0, 10);
        Due.is("lies", x.lies(0), 100);
        Due.is("carry", x.carry(1, 0, 1), -2);
        Due.is("carry", x.carry(-1, 0, 1), -2);
        Due.is("carry", x.carry(0, 4, 1), -2);
        Due.is("carry", x.carry(0, -1, 1), -2);
        Due.is("carry", x.carry(0, 0, 0), -2);
        Due.is("carry", x.carry(0, 0, 10000), -2);
        Due.is("carry", x.carry(0, 1, 10000), -2);
        Due.is("carry", x.carry(0, 0, 9999), -4);
        Due.is("beyond reach", x.carry(0, 1, 1), -4);
        Due.is("beyond reach", x.carry(0, 2, 1), -4);
        Due.is("no room", x.carry(0, 3, 1), -4);
        Due.is("no room", x.carry(0, 0, 61), -4);
        Due.is("whatever a day bears", x.carry(0, 0, 60), 40);
        Due.is("had", x.had(0), 60);
        Due.is("no room any more", x.carry(0, 0, 1), -4);
        Due.is("lies", x.lies(0), 40);
        Due.is("had(4)", x.had(4), -2);
        Due.is("had(-1)", x.had(-1), -2);
        x = Due.withCamp("hut a 100 50 10;garden g 150 5 600;reach 100;sand 10;pace 10;");
        x.open(0);
        x.shift(0, 10);
        Due.is("not so much", x.carry(0, 0, 101), -4);
        Due.is("all", x.carry(0, 0, 100), 0);
        Due.is("none", x.carry(0, 0, 1), -4);
    }

    private static void most() {
        TrouserSand x = Due.withCamp("hut a 100 50 2;hut b 200 50 1;garden g 100 5 60;garden h 200 9 20;reach 100;"
            + "sand 10;pace 10;walk 4;board 0;");
        Due.is("most(0)", x.most(0), -2);
        Due.is("most(100)", x.most(100), -2);
        Due.is("most(-1)", x.most(-1), -2);
        x.open(0);
        x.open(1);
        Due.is("until()", x.until(), 0);
        x.shift(0, 2);
        x.shift(1, 1);
        // a: 8 a day of 20 to g alone; b: 4 a day of 10 to h alone.
        Due.is("most(1)", x.most(1), 9);
        Due.is("most(2)", x.most(2), 18);
        Due.is("most(3)", x.most(3), 25);
        Due.is("most(4)", x.most(4), 30);
        Due.is("most(99)", x.most(99), 30);
        Due.is("until()", x.until(), 4);
        x.shift(1, 2);
        Due.is("h has no room for more than 20", x.most(99), 40);
        Due.is("until()", x.until(), -1);
        Due.is("not in 99", Due.withCamp("").until(), 0);
        TrouserSand slow = Due.withCamp("hut a 0 1 1;garden g 0 1 9999;sand 99;pace 10;walk 1;");
        slow.open(0);
        slow.shift(0, 1);
        Due.is("just in 99", slow.until(), 99);
        Due.is("carry", slow.carry(0, 0, 98), 1);
        Due.is("in one day", slow.until(), 1);
        slow = Due.withCamp("hut a 0 1 1;garden g 0 1 9999;sand 50;pace 10;walk 1;");
        slow.open(0);
        slow.shift(0, 2);
        Due.is("not in 99", slow.until(), -1);
        Due.is("most(99)", slow.most(99), 99);
    }

    /** What one call reckoned must not be seen in the next. */
    private static void callsMixed() {
        TrouserSand x = Due.withCamp("hut a 0 1 9;hut b 0 1 9;hut c 0 1 9;count a 0;count b 30;count c 60;garden g 0 9 99;"
            + "garden h 400 9 99;garden i 400 9 99;reach 50;pace 10;");
        x.open(0);
        x.shift(0, 9);
        x.gone(1, 2);
        Due.is("runners()", x.runners(), 2);
        Due.is("most(1)", x.most(1), 9);
        Due.is("wrong()", x.wrong(), 2);
        Due.is("most(99)", x.most(99), 90);
        x.gone(1, 0);
        x.gone(0, 1);
        Due.is("runners()", x.runners(), -1);
        Due.is("wrong()", x.wrong(), 2);
        Due.camp(x, "hut a 0 1 9;garden g 0 9 5;garden h 400 9 99;reach 5;pace 10;");
        x.open(0);
        x.shift(0, 1);
        Due.is("most(99) of another camp", x.most(99), 5);
        Due.is("until()", x.until(), -1);
        Due.camp(x, "hut a 0 1 9;hut b 0 1 9;count b 9;garden g 0 9 99;garden h 0 9 99;pace 10;");
        x.open(0);
        x.shift(0, 5);
        Due.is("most(9)", x.most(9), 50);
        x.gone(1, 1);
        Due.is("a isn't counted", x.runners(), -1);
        x.most(9);
        Due.is("wrong()", x.wrong(), 1);
    }

    private static void mostAgainstTheModel() {
        Random random = new Random(16);
        for (int n = 0; n < 400; n++) {
            int huts = 1 + random.nextInt(5);
            int gardens = random.nextInt(5);
            StringBuilder text = new StringBuilder("pace 10;board 0;");
            int reach = random.nextInt(300);
            int walk = 1 + random.nextInt(4);
            text.append("reach ").append(reach).append(";walk ").append(walk).append(";sand 3;");
            int[] hx = new int[huts];
            int[] back = new int[huts];
            int[] men = new int[huts];
            for (int h = 0; h < huts; h++) {
                hx[h] = random.nextInt(401);
                back[h] = 1 + random.nextInt(100);
                men[h] = 1 + random.nextInt(4);
                text.append("hut ").append((char) ('a' + h)).append(' ').append(hx[h]).append(' ').append(back[h])
                    .append(' ').append(men[h]).append(';');
            }
            int[] gx = new int[gardens];
            int[] day = new int[gardens];
            int[] all = new int[gardens];
            for (int g = 0; g < gardens; g++) {
                gx[g] = random.nextInt(401);
                day[g] = random.nextInt(10);
                all[g] = random.nextInt(60);
                text.append("garden ").append((char) ('a' + g)).append(' ').append(gx[g]).append(' ').append(day[g])
                    .append(' ').append(all[g]).append(';');
            }
            TrouserSand x = Due.withCamp(text.toString());
            int[] sand = new int[huts];
            for (int t = 0; t < 3; t++) {
                int h = random.nextInt(huts);
                int m = 1 + random.nextInt(9);
                x.open(h);
                x.shift(t, m);
                sand[h] += 3 * m;
            }
            int total = 0;
            boolean[][] way = new boolean[huts][gardens];
            for (int h = 0; h < huts; h++) {
                total += sand[h];
                for (int g = 0; g < gardens; g++) {
                    way[h][g] = Math.abs(hx[h] - gx[g]) + back[h] <= reach;
                }
            }
            int until = -1;
            for (int d = 1; d < 100; d++) {
                int[] from = new int[huts];
                int[] to = new int[gardens];
                for (int h = 0; h < huts; h++) {
                    from[h] = Math.min(sand[h], men[h] * walk * d);
                }
                for (int g = 0; g < gardens; g++) {
                    to[g] = Math.min(all[g], day[g] * d);
                }
                int most = Flow.greatest(from, to, way);
                Due.is("most(" + d + ") of " + text, x.most(d), most);
                if (until < 0 && most == total) {
                    until = d;
                }
            }
            Due.is("until() of " + text, x.until(), until);
        }
    }

    private static void slots() {
        TrouserSand x = Due.withCamp("hut a 0 1 10;hut b 0 1 10;garden g 0 9 99;pace 13;fall 50;");
        Due.is("keep(-1)", x.keep(-1), -2);
        Due.is("keep(2)", x.keep(2), -2);
        Due.is("take(-1)", x.take(-1), -2);
        Due.is("take(2)", x.take(2), -2);
        Due.is("take(0)", x.take(0), -4);
        Due.is("keep(1)", x.keep(1), 0);
        x.open(0);
        x.open(1);
        for (int i = 0; i < 4; i++) {
            x.shift(0, 3);
            x.shift(1, 1);
        }
        x.carry(0, 0, 7);
        x.gone(0, 2);
        String kept = state(x);
        int feet = x.tunnel(0, 1) + x.tunnel(1, 1);
        Due.is("keep(0)", x.keep(0), feet);
        String after = goOn(x);
        Due.is("take(0)", x.take(0), feet);
        Due.is("as it was", state(x).equals(kept) ? 1 : 0, 1);
        Due.is("THE CHANCE as it was", goOn(x).equals(after) ? 1 : 0, 1);
        Due.is("GONE isn't kept", x.gone(0, 2), 5);
        Due.is("take(0) again", x.take(0), feet);
        Due.is("as it was", state(x).equals(kept) ? 1 : 0, 1);
        Due.is("take(1)", x.take(1), 0);
        Due.is("no TUNNELS", x.count(1), 0);
        Due.is("all boards", x.boards(), 80);
        Due.is("take(0)", x.take(0), feet);
        Due.is("as it was", state(x).equals(kept) ? 1 : 0, 1);
        // Other tunnels from other HUTS meanwhile.
        x.take(1);
        x.open(1);
        x.open(0);
        x.shift(0, 7);
        x.shift(1, 8);
        Due.is("take(0)", x.take(0), feet);
        Due.is("as it was", state(x).equals(kept) ? 1 : 0, 1);
    }

    private static String goOn(TrouserSand x) {
        x.open(0);
        x.gone(0, 5);
        for (int i = 0; i < 6; i++) {
            x.shift(i % 3, 2);
        }
        x.carry(0, 0, 3);
        return state(x);
    }

    private static String state(TrouserSand x) {
        StringBuilder state = new StringBuilder();
        for (int t = 0; t < 3; t++) {
            for (int what = 0; what < 6; what++) {
                state.append(x.tunnel(t, what)).append(' ');
            }
        }
        return state.append(x.boards()).append(' ').append(x.lies(0)).append(' ').append(x.lies(1)).append(' ')
            .append(x.had(0)).append(' ').append(x.count(1)).toString();
    }

    private static void shiftsAgainstTheModel() {
        Random random = new Random(10);
        for (int n = 0; n < 500; n++) {
            int has = random.nextInt(21);
            int keeps = random.nextInt(21);
            int board = random.nextInt(10);
            int air = 10 + random.nextInt(30);
            int pace = 1 + random.nextInt(50);
            int fall = random.nextInt(51);
            int sand = 1 + random.nextInt(99);
            TrouserSand x = Due.withCamp("hut a 0 1 40;hut b 1 1 33;bed " + has + " " + keeps + ";board " + board + ";air "
                + air + ";pace " + pace + ";fall " + fall + ";sand " + sand + ";");
            int[] home = {0, 1, 1};
            int[] feet = new int[3];
            int[] tenths = new int[3];
            int[] lies = new int[2];
            int left = 73 * Math.max(0, has - keeps);
            for (int t = 0; t < 3; t++) {
                x.open(home[t]);
            }
            long seed = random.nextInt() & 0x7fffffff;
            x.chance((int) seed);
            for (int i = 0; i < 40; i++) {
                int t = random.nextInt(3);
                int men = 1 + random.nextInt(20);
                for (int m = feet[t] / air; m < men; m++) {
                    tenths[t] += pace;
                }
                int dug = 0;
                while (tenths[t] >= 10) {
                    tenths[t] -= 10;
                    if (left >= board) {
                        left -= board;
                        dug++;
                    }
                }
                lies[home[t]] += dug * sand;
                boolean falls = false;
                if (fall > 0) {
                    seed = (1103515245L * seed + 12345L) & 0x7fffffffL;
                    falls = (seed >> 16) % 100 < fall;
                }
                feet[t] += falls ? 0 : dug;
                Due.is("shift(" + t + ", " + men + ")", x.shift(t, men), feet[t]);
                Due.is("boards()", x.boards(), left);
                Due.is("lies", x.lies(home[t]), lies[home[t]]);
                Due.is("tenths", x.tunnel(t, 2), tenths[t]);
            }
        }
    }
}
