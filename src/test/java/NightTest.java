import java.util.Random;

/** Promises 31 to 36: join, round, morning, order, best, goes. */
public final class NightTest {
    public static void main(String[] args) {
        join();
        round();
        morning();
        order();
        best();
        allRounds();
        againstTheModel();
        Due.finish();
    }

    private static void join() {
        TrouserSand x = new TrouserSand();
        Due.is("join(0, 0)", x.join(0, 0), -2);
        Due.is("join(21, 0)", x.join(21, 0), -2);
        Due.is("join(5, 2)", x.join(5, 2), -2);
        Due.is("join(5, -1)", x.join(5, -1), -2);
        Due.is("join(1, 0)", x.join(1, 0), 0);
        Due.is("join(20, 1)", x.join(20, 1), 1);
        Due.is("a case takes three more", Due.order(x, "1"), 23);
        for (int p = 2; p < 8; p++) {
            Due.is("PEOPLE", x.join(2, 0), p);
        }
        Due.is("the 9th", x.join(1, 0), -3);
        Due.is("the 9th, wrong", x.join(0, 0), -2);
        Due.is("count(4)", x.count(4), 8);
    }

    private static void round() {
        TrouserSand x = new TrouserSand();
        Due.is("round(-1, 5)", x.round(-1, 5), -2);
        Due.is("round(5, 5)", x.round(5, 5), -2);
        Due.is("round(6, 5)", x.round(6, 5), -2);
        Due.is("round(0, 601)", x.round(0, 601), -2);
        Due.is("round(599, 600)", x.round(599, 600), 0);
        Due.is("round(10, 20)", x.round(10, 20), 1);
        Due.is("round(0, 10)", x.round(0, 10), 2);
        Due.is("round(20, 21)", x.round(20, 21), 3);
        Due.is("round(19, 25)", x.round(19, 25), -2);
        Due.is("round(5, 6)", x.round(5, 6), -2);
        Due.is("round(21, 600)", x.round(21, 600), -2);
        Due.is("round(0, 600)", x.round(0, 600), -2);
        Due.is("round(21, 22)", x.round(21, 22), 4);
        Due.is("the 6th", x.round(30, 31), -3);
        Due.is("the 6th, wrong", x.round(21, 22), -2);
        Due.is("count(5)", x.count(5), 5);
    }

    private static void morning() {
        TrouserSand x = new TrouserSand();
        Due.is("morning()", x.morning(), 0);
        x.join(3, 0);
        x.join(4, 0);
        x.round(0, 10);
        x.best(99);
        Due.is("goes(0, 1)", x.goes(0, 1), 13);
        Due.is("morning()", x.morning(), 2);
        Due.is("PEOPLE", x.count(4), 0);
        Due.is("ROUNDS", x.count(5), 0);
        Due.is("goes(0, 0)", x.goes(0, 0), -1);
        Due.is("nobody", Due.order(x, "0"), -1);
        Due.is("join", x.join(5, 0), 0);
        Due.is("no ROUND any more", Due.order(x, "0"), 5);
        Due.is("round", x.round(0, 10), 0);
    }

    private static void order() {
        TrouserSand x = new TrouserSand();
        x.join(5, 0);
        x.join(4, 1);
        x.join(2, 0);
        x.round(10, 12);
        x.round(5, 6);
        x.round(14, 20);
        Due.is("none", Due.order(x, ""), 0);
        Due.is("0 is out as the ROUND begins", Due.order(x, "0"), 5);
        Due.is("02", Due.order(x, "02"), 8);
        Due.is("022", Due.order(x, "022"), -1);
        Due.is("20", Due.order(x, "20"), 25);
        Due.is("1", Due.order(x, "1"), 27);
        Due.is("021", Due.order(x, "021"), 27);
        Due.is("3", Due.order(x, "3"), -1);
        Due.is("a blank", Due.order(x, "0 2"), -1);
        Due.is("a sign", Due.order(x, "/"), -1);
        Due.is("a byte of 255", Due.order(x, "" + (char) 255), -1);
        Due.feed(x, "0");
        x.order();
        Due.is("THE TAPE is empty", x.count(7), 0);
        Due.feed(x, "9");
        x.order();
        Due.is("THE TAPE is empty", x.count(7), 0);
        x = new TrouserSand();
        for (int p = 0; p < 8; p++) {
            x.join(p + 1, 0);
        }
        Due.is("all", Due.order(x, "76543210"), 36);
        Due.is("too many", Due.order(x, "765432101"), -1);
    }

    private static void best() {
        TrouserSand x = new TrouserSand();
        Due.is("best(-1)", x.best(-1), -2);
        Due.is("best(1000)", x.best(1000), -2);
        Due.is("best(999)", x.best(999), 0);
        Due.is("goes(0, 0)", x.goes(0, 0), -1);
        x.join(9, 0);
        x.join(5, 0);
        x.join(5, 0);
        x.join(3, 0);
        Due.is("best(2)", x.best(2), 0);
        Due.is("best(3)", x.best(3), 1);
        Due.is("goes(0, 0)", x.goes(0, 0), 3);
        Due.is("best(8)", x.best(8), 2);
        Due.is("goes(0, 0)", x.goes(0, 0), 1);
        Due.is("goes(1, 0)", x.goes(1, 0), 3);
        Due.is("goes(0, 1)", x.goes(0, 1), 5);
        Due.is("goes(1, 1)", x.goes(1, 1), 8);
        Due.is("goes(2, 0)", x.goes(2, 0), -1);
        Due.is("goes(-1, 0)", x.goes(-1, 0), -1);
        Due.is("goes(0, 2)", x.goes(0, 2), -1);
        Due.is("goes(0, -1)", x.goes(0, -1), -1);
        x.round(0, 1);
        x.join(1, 0);
        Due.is("as the latest best() told", x.goes(1, 1), 8);
        Due.is("best(1000) leaves it", x.best(1000), -2);
        Due.is("goes(1, 1)", x.goes(1, 1), 8);
        Due.is("best(999)", x.best(999), 5);
        int[] outs = {10, 15, 20, 23, 24};
        for (int i = 0; i < 5; i++) {
            Due.is("goes", x.goes(i, 0), i);
            Due.is("goes", x.goes(i, 1), outs[i]);
        }
        Due.is("best(0) tells none", x.best(0), 0);
        Due.is("goes(0, 0)", x.goes(0, 0), -1);
    }

    /** Five ROUNDS, told from the last to the first, between one and the next who goes. */
    private static void allRounds() {
        TrouserSand x = new TrouserSand();
        x.join(1, 0);
        x.join(5, 0);
        x.join(5, 0);
        for (int from = 13; from >= 5; from -= 2) {
            x.round(from, from + 1);
        }
        Due.is("best(19)", x.best(19), 3);
        int[] row = {1, 0, 2};
        int[] out = {5, 7, 19};
        for (int i = 0; i < 3; i++) {
            Due.is("goes(" + i + ", 0)", x.goes(i, 0), row[i]);
            Due.is("goes(" + i + ", 1)", x.goes(i, 1), out[i]);
        }
        Due.is("order", Due.order(x, "12"), 19);
        Due.is("order", Due.order(x, "012"), 24);
    }

    private static void againstTheModel() {
        Random random = new Random(35);
        for (int n = 0; n < 400; n++) {
            TrouserSand x = new TrouserSand();
            int people = random.nextInt(n % 20 == 0 ? 9 : 7);
            int[] needs = new int[people];
            for (int p = 0; p < people; p++) {
                int minutes = 1 + random.nextInt(random.nextBoolean() ? 20 : 4);
                int bag = random.nextInt(2);
                needs[p] = minutes + 3 * bag;
                x.join(minutes, bag);
            }
            boolean[] closed = new boolean[2000];
            for (int r = 0; r < 6; r++) {
                int from = random.nextInt(90);
                int to = from + 1 + random.nextInt(8);
                if (x.round(from, to) >= 0) {
                    for (int m = from; m < to; m++) {
                        closed[m] = true;
                    }
                }
            }
            Model model = new Model(needs, closed);
            for (int i = 0; i < 4; i++) {
                int limit = random.nextInt(130);
                model.find(limit);
                Due.is("best(" + limit + ")", x.best(limit), model.bestLength);
                for (int k = 0; k <= people; k++) {
                    boolean on = k < model.bestLength;
                    Due.is("goes(" + k + ", 0)", x.goes(k, 0), on ? model.best[k] : -1);
                    Due.is("goes(" + k + ", 1)", x.goes(k, 1), on ? model.bestOut[k] : -1);
                }
            }
        }
    }

    /** Tries each ORDER, minute by minute. */
    private static final class Model {
        private final int[] needs;
        private final boolean[] closed;
        private final int[] row = new int[8];
        private final int[] out = new int[8];
        private int limit;
        int[] best = new int[8];
        int[] bestOut = new int[8];
        int bestLength;
        private int done;

        Model(int[] needs, boolean[] closed) {
            this.needs = needs;
            this.closed = closed;
        }

        void find(int t) {
            limit = t;
            bestLength = 0;
            done = 0;
            go(0, 0, 0);
        }

        private void go(int length, int used, int minute) {
            if (minute > limit) {
                return;
            }
            // Rows are come to from the least on: an equal one isn't better.
            if (length > bestLength || length == bestLength && minute < done) {
                bestLength = length;
                done = minute;
                best = row.clone();
                bestOut = out.clone();
            }
            for (int p = 0; p < needs.length; p++) {
                if ((used & 1 << p) == 0) {
                    row[length] = p;
                    out[length] = leaves(minute, needs[p]);
                    go(length + 1, used | 1 << p, out[length]);
                }
            }
        }

        private int leaves(int minute, int need) {
            int free = 0;
            int m = minute;
            while (free < need) {
                free = closed[m] ? 0 : free + 1;
                m++;
            }
            return m;
        }
    }
}
