/** Promises 31 to 36, and what Term V says of THE NIGHT. */
public final class NightTest {
    private static final int NONE = TrouserSand.NONE;
    private static final int RANGE = TrouserSand.RANGE;
    private static final int FULL = TrouserSand.FULL;
    private static final int LEAST = Integer.MIN_VALUE;
    private static final int GREATEST = Integer.MAX_VALUE;

    public static void main(String[] args) {
        people();
        rounds();
        thatOneNoMore();
        asEarlyAsHeCan();
        mostByT();
        doneTheEarliest();
        leastRow();
        allRounds();
        join();
        round();
        morning();
        order();
        orderNone();
        best();
        goes();
        Due.finish();
    }

    /** Those who go, without a case. */
    private static TrouserSand with(int... minutes) {
        TrouserSand x = new TrouserSand();
        for (int m : minutes) {
            x.join(m, 0);
        }
        return x;
    }

    /** The row that best() found, one digit each. */
    private static long row(TrouserSand x) {
        long row = 0;
        for (int i = 0; x.goes(i, 0) >= 0 && i < 9; i++) {
            row = row * 10 + x.goes(i, 0) + 1;
        }
        return row;
    }

    private static void people() {
        Due.term("V", "PEOPLE, at most 8, numbered from 0");
        TrouserSand x = new TrouserSand();
        for (int p = 0; p < 8; p++) {
            Due.is("join", x.join(p + 1, 0), p);
        }
        Due.is("the 9th", x.join(1, 0), FULL);
        Due.is("count(4)", x.count(4), 8);
        Due.is("all go", Due.order(x, "76543210"), 36);
        Due.is("best(36)", x.best(36), 8);
        Due.term("V", "each needs 1 .. 20 minutes, and three more with a case");
        x = new TrouserSand();
        Due.is("join(0, 0)", x.join(0, 0), RANGE);
        Due.is("join(1, 0)", x.join(1, 0), 0);
        Due.is("join(20, 0)", x.join(20, 0), 1);
        Due.is("join(21, 0)", x.join(21, 0), RANGE);
        Due.is("join(1, 1)", x.join(1, 1), 2);
        Due.is("join(20, 1)", x.join(20, 1), 3);
        Due.is("join(0, 1)", x.join(0, 1), RANGE);
        Due.is("join(21, 1)", x.join(21, 1), RANGE);
        int[] due = {1, 20, 4, 23};
        for (int p = 0; p < 4; p++) {
            Due.is("order() of " + p, Due.order(x, "" + p), due[p]);
        }
    }

    private static void rounds() {
        Due.term("V", "ROUNDS of the guard, at most 5");
        TrouserSand x = new TrouserSand();
        for (int r = 0; r < 5; r++) {
            Due.is("round", x.round(10 * r, 10 * r + 5), r);
        }
        Due.is("the 6th", x.round(500, 501), FULL);
        Due.is("count(5)", x.count(5), 5);
        Due.term("V", "from a minute to a later one (0 .. 600");
        x = new TrouserSand();
        Due.is("round(-1, 5)", x.round(-1, 5), RANGE);
        Due.is("round(599, 601)", x.round(599, 601), RANGE);
        Due.is("round(600, 601)", x.round(600, 601), RANGE);
        Due.is("round(5, 5)", x.round(5, 5), RANGE);
        Due.is("round(6, 5)", x.round(6, 5), RANGE);
        Due.is("round(600, 600)", x.round(600, 600), RANGE);
        Due.is("round(0, 0)", x.round(0, 0), RANGE);
        Due.is("round(0, 1)", x.round(0, 1), 0);
        Due.is("round(599, 600)", x.round(599, 600), 1);
        Due.is("the longest", new TrouserSand().round(0, 600), 0);
    }

    private static void thatOneNoMore() {
        Due.term("V", "that one no more) nobody may be in the hole");
        TrouserSand x = with(5);
        x.round(5, 9);
        Due.is("out as it begins", Due.order(x, "0"), 5);
        x = with(6);
        x.round(5, 9);
        Due.is("one minute in it: from 9 on", Due.order(x, "0"), 15);
        x = with(5);
        x.round(0, 9);
        Due.is("from 9 on", Due.order(x, "0"), 14);
        x = with(20);
        x.round(0, 600);
        Due.is("from 600 on", Due.order(x, "0"), 620);
        x = with(1);
        x.round(0, 1);
        Due.is("the least ROUND", Due.order(x, "0"), 2);
        // A ROUND that is over, or is not yet.
        x = with(5, 5);
        x.round(5, 6);
        x.round(11, 12);
        Due.is("between the two", Due.order(x, "01"), 11);
        x = with(5, 6);
        x.round(5, 6);
        x.round(11, 12);
        Due.is("not between the two", Due.order(x, "01"), 18);
        // Two that touch.
        x = with(3);
        x.round(6, 9);
        x.round(2, 6);
        Due.is("from 9 on", Due.order(x, "0"), 12);
    }

    private static void asEarlyAsHeCan() {
        Due.term("V", "each begins as early as he can, so that no minute of his is in a ROUND: when he is out");
        TrouserSand x = with(5, 7, 2);
        Due.is("one behind the other", Due.order(x, "012"), 14);
        x.round(10, 12);
        x.round(5, 6);
        x.round(14, 20);
        Due.is("0", Due.order(x, "0"), 5);
        Due.is("02", Due.order(x, "02"), 8);
        Due.is("20", Due.order(x, "20"), 25);
        Due.is("1", Due.order(x, "1"), 27);
        Due.is("021", Due.order(x, "021"), 27);
        // Who comes behind one who waited begins behind him, however early he could have gone.
        Due.is("12", Due.order(x, "12"), 29);
    }

    private static void mostByT() {
        Due.term("V", "the ORDERS of some of them with which the most are out by T");
        TrouserSand x = with(9, 5, 5, 3);
        int[] limits = {0, 2, 3, 7, 8, 12, 13, 21, 22, 999};
        int[] due = {0, 0, 1, 1, 2, 2, 3, 3, 4, 4};
        for (int i = 0; i < limits.length; i++) {
            Due.is("best(" + limits[i] + ")", x.best(limits[i]), due[i]);
        }
        // The longer ones ahead of a ROUND, though the short ones alone would be done sooner.
        x = with(2, 8);
        x.round(8, 10);
        Due.is("best(12)", x.best(12), 2);
        Due.is("the row", row(x), 21);
        Due.is("best(11)", x.best(11), 1);
        Due.is("the row", row(x), 1);
        x = with(20);
        x.round(0, 600);
        Due.is("best(619)", x.best(619), 0);
        Due.is("best(620)", x.best(620), 1);
    }

    private static void doneTheEarliest() {
        Due.term("V", "of these those that are done the earliest");
        TrouserSand x = with(9, 5, 4, 3);
        x.best(20);
        Due.is("the three that are done by 12", row(x), 234);
        Due.is("done", x.goes(2, 1), 12);
        x.best(11);
        Due.is("the two that are done by 7", row(x), 34);
        x.best(6);
        Due.is("the one that is done by 3", row(x), 4);
        // 0 and 1 would be out by 12, 1 and 2 by 7.
        x = with(9, 3, 4, 8);
        Due.is("best(13)", x.best(13), 2);
        Due.is("the row", row(x), 23);
        Due.is("done", x.goes(1, 1), 7);
        // However early one alone would be.
        x = with(5, 5, 9);
        Due.is("best(10)", x.best(10), 2);
        Due.is("the row", row(x), 12);
        // 0 and 1 in the order with which they needn't wait: 6 fits ahead of the ROUND.
        x = with(3, 6);
        x.round(6, 8);
        x.best(99);
        Due.is("the row", row(x), 21);
        Due.is("done", x.goes(1, 1), 11);
    }

    private static void leastRow() {
        Due.term("V", "then the least row");
        TrouserSand x = with(5, 5, 5);
        x.best(99);
        Due.is("all alike", row(x), 123);
        x.best(10);
        Due.is("two of three alike", row(x), 12);
        x.best(5);
        Due.is("one of three alike", row(x), 1);
        // Not the least set, the least row: any order of 1, 2, 3 does.
        x = with(9, 4, 3, 2);
        x.best(9);
        Due.is("three of four", row(x), 234);
        // 0 could be first, but then the ROUND is met.
        x = with(4, 6, 4);
        x.round(10, 20);
        x.best(99);
        Due.is("two ahead of it, one behind it", row(x), 123);
        Due.is("done", x.goes(2, 1), 24);
        x = with(6, 4, 4);
        x.round(8, 20);
        x.best(99);
        Due.is("4 and 4 ahead of it", row(x), 231);
        // Of two sets that are done alike early.
        x = with(4, 3, 2, 1);
        x.best(3);
        Due.is("2 and 3", row(x), 34);
        x = with(3, 3, 6);
        x.best(6);
        Due.is("0 and 1", row(x), 12);
    }

    /** Five ROUNDS, told from the last to the first, between one and the next who goes. */
    private static void allRounds() {
        Due.term("V", "each begins as early as he can");
        TrouserSand x = with(1, 5, 5);
        for (int from = 13; from >= 5; from -= 2) {
            x.round(from, from + 1);
        }
        Due.is("best(19)", x.best(19), 3);
        int[] row = {1, 0, 2};
        int[] out = {5, 7, 19};
        for (int i = 0; i < 3; i++) {
            Due.is("goes(" + i + ", 0)", x.goes(i, 0), row[i]);
            Due.is("goes(" + i + ", 1)", x.goes(i, 1), out[i]);
        }
        Due.is("order() of 12", Due.order(x, "12"), 19);
        Due.is("order() of 012", Due.order(x, "012"), 24);
        // Told from the first to the last: he comes from one to the next, five times.
        x = with(5);
        for (int from = 4; from <= 12; from += 2) {
            x.round(from, from + 1);
        }
        Due.is("order() of 0", Due.order(x, "0"), 18);
        Due.is("best(17)", x.best(17), 0);
        Due.is("best(18)", x.best(18), 1);
        Due.is("goes(0, 1)", x.goes(0, 1), 18);
    }

    private static void join() {
        Due.promise(31, "One more who goes: minutes, with a case (1) or without (0): his number");
        TrouserSand x = new TrouserSand();
        Due.is("join(7, 1)", x.join(7, 1), 0);
        Due.is("join(7, 0)", x.join(7, 0), 1);
        Due.is("with a case", Due.order(x, "0"), 10);
        Due.is("without", Due.order(x, "1"), 7);
        Due.promise(31, "RANGE");
        int[] minutes = {LEAST, -1, 0, 21, GREATEST};
        for (int m : minutes) {
            Due.is("join(" + m + ", 0)", x.join(m, 0), RANGE);
            Due.is("join(" + m + ", 1)", x.join(m, 1), RANGE);
        }
        int[] bags = {LEAST, -1, 2, GREATEST};
        for (int bag : bags) {
            Due.is("join(5, " + bag + ")", x.join(5, bag), RANGE);
        }
        Due.is("count(4) stays", x.count(4), 2);
        Due.promise(31, "FULL");
        x = with(1, 2, 3, 4, 5, 6, 7, 8);
        Due.is("the 9th", x.join(1, 0), FULL);
        Due.is("count(4) stays", x.count(4), 8);
        Due.is("all stay", Due.order(x, "01234567"), 36);
        Due.is("RANGE ahead of FULL: join(0, 0)", x.join(0, 0), RANGE);
        Due.is("RANGE ahead of FULL: join(1, 2)", x.join(1, 2), RANGE);
    }

    private static void round() {
        Due.promise(32, "A ROUND: its number");
        TrouserSand x = new TrouserSand();
        Due.is("round(10, 20)", x.round(10, 20), 0);
        Due.is("round(30, 31)", x.round(30, 31), 1);
        Due.promise(32, "RANGE: no such minutes");
        int[][] none = {{-1, 5}, {LEAST, 5}, {5, 5}, {6, 5}, {0, 601}, {0, GREATEST}, {GREATEST, LEAST}, {600, 601}, {40, LEAST},
            {GREATEST, GREATEST}, {LEAST, LEAST}};
        for (int[] n : none) {
            Due.is("round(" + n[0] + ", " + n[1] + ")", x.round(n[0], n[1]), RANGE);
        }
        Due.is("count(5) stays", x.count(5), 2);
        Due.promise(32, "or one of its minutes is in a ROUND that was told");
        x = new TrouserSand();
        x.round(10, 20);
        x.round(40, 50);
        int[][] met = {{10, 20}, {9, 11}, {19, 21}, {12, 13}, {5, 30}, {10, 11}, {19, 20}, {0, 600}, {30, 41}, {49, 60}, {20, 41}};
        for (int[] m : met) {
            Due.is("round(" + m[0] + ", " + m[1] + ")", x.round(m[0], m[1]), RANGE);
        }
        Due.is("count(5) stays", x.count(5), 2);
        Due.is("up to it", x.round(9, 10), 2);
        Due.is("from its end on", x.round(20, 40), 3);
        Due.is("from its end on", x.round(50, 51), 4);
        Due.promise(32, "FULL");
        Due.is("the 6th", x.round(100, 101), FULL);
        Due.is("count(5) stays", x.count(5), 5);
        Due.is("RANGE ahead of FULL: no such minutes", x.round(100, 100), RANGE);
        Due.is("RANGE ahead of FULL: met", x.round(50, 52), RANGE);
        // What was refused keeps nobody out of the hole.
        x = with(5);
        x.round(3, 3);
        x.round(0, 601);
        Due.is("order() of 0", Due.order(x, "0"), 5);
    }

    private static void morning() {
        Due.promise(33, "There are no PEOPLE and ROUNDS of THE NIGHT");
        TrouserSand x = with(3, 4);
        x.round(0, 10);
        x.morning();
        Due.is("count(4)", x.count(4), 0);
        Due.is("count(5)", x.count(5), 0);
        Due.is("nobody goes", Due.order(x, "0"), NONE);
        Due.is("best(999)", x.best(999), 0);
        Due.is("from 0 on: join", x.join(5, 0), 0);
        Due.is("no ROUND any more", Due.order(x, "0"), 5);
        Due.is("from 0 on: round", x.round(5, 10), 0);
        Due.promise(33, "what best() told is gone");
        x = with(3, 4);
        x.best(99);
        Due.is("goes(0, 1)", x.goes(0, 1), 3);
        x.morning();
        Due.is("goes(0, 0)", x.goes(0, 0), NONE);
        Due.is("goes(0, 1)", x.goes(0, 1), NONE);
        Due.promise(33, "how many PEOPLE there were");
        Due.is("none", new TrouserSand().morning(), 0);
        Due.is("two", with(3, 4).morning(), 2);
        x = with(1, 2, 3, 4, 5, 6, 7, 8);
        Due.is("eight", x.morning(), 8);
        Due.is("none then", x.morning(), 0);
        x.round(1, 2);
        Due.is("ROUNDS don't count", x.morning(), 0);
        // The rest stays.
        x = Due.withCamp("hut a 0 1 9;");
        x.open(0);
        x.gone(0, 3);
        x.string(0, 1, 0, 0);
        x.list(1, 1, 0, 0, 0, 0);
        x.feed(0, 0, 0, 0, 0);
        x.morning();
        Due.is("count(0)", x.count(0), 1);
        Due.is("count(1)", x.count(1), 1);
        Due.is("count(2)", x.count(2), 1);
        Due.is("count(6)", x.count(6), 3);
        Due.is("count(7)", x.count(7), 20);
        Due.is("listed(0)", x.listed(0), 0);
    }

    private static void order() {
        Due.promise(34, "when the last one is out (0 without any)");
        TrouserSand x = with(5, 7, 2);
        Due.is("an empty TAPE", Due.order(x, ""), 0);
        Due.is("an empty TAPE, nobody", new TrouserSand().order(), 0);
        Due.is("2", Due.order(x, "2"), 2);
        Due.is("21", Due.order(x, "21"), 9);
        Due.is("210", Due.order(x, "210"), 14);
        x.round(0, 3);
        Due.is("none, with a ROUND at 0", Due.order(x, ""), 0);
        Due.is("2, with a ROUND at 0", Due.order(x, "2"), 5);
        x.best(99);
        long before = row(x);
        Due.order(x, "210");
        Due.order(x, "");
        Due.order(x, "!");
        Due.is("what best() told stays", row(x), before);
    }

    private static void orderNone() {
        Due.promise(34, "(a byte each: 48 and the number; each once at most)");
        TrouserSand x = with(5, 7, 2);
        Due.is("each once", Due.order(x, "012"), 14);
        Due.is("one twice", Due.order(x, "00"), NONE);
        Due.is("one twice, apart", Due.order(x, "0120"), NONE);
        Due.promise(34, "NONE: it is no such row");
        Due.is("a number too great", Due.order(x, "3"), NONE);
        Due.is("one behind another", Due.order(x, "03"), NONE);
        String[] none = {"/", ":", "9", " 0", "0 ", "0\n", "a", "\u0000", "\u00ff", "\u00b0", "0;", "0,1"};
        for (String text : none) {
            Due.is("order() of '" + text + "'", Due.order(x, text), NONE);
        }
        Due.is("nobody", Due.order(new TrouserSand(), "0"), NONE);
        x = with(1, 2, 3, 4, 5, 6, 7, 8);
        Due.is("all", Due.order(x, "01234567"), 36);
        Due.is("8", Due.order(x, "8"), NONE);
        Due.is("more than all", Due.order(x, "012345670"), NONE);
        StringBuilder long900 = new StringBuilder();
        while (long900.length() < 900) {
            long900.append("01234567");
        }
        Due.is("a full TAPE", Due.order(x, long900.substring(0, 900)), NONE);
        Due.is("count(4) stays", x.count(4), 8);
    }

    private static void best() {
        Due.promise(35, "BEST by T (0 .. 999): how many are out");
        TrouserSand x = with(3, 4);
        Due.is("best(0)", x.best(0), 0);
        Due.is("best(2)", x.best(2), 0);
        Due.is("best(3)", x.best(3), 1);
        Due.is("best(6)", x.best(6), 1);
        Due.is("best(7)", x.best(7), 2);
        Due.is("best(999)", x.best(999), 2);
        Due.is("nobody", new TrouserSand().best(999), 0);
        Due.promise(35, "RANGE");
        int[] none = {LEAST, -1, 1000, GREATEST};
        for (int t : none) {
            Due.is("best(" + t + ")", x.best(t), RANGE);
            Due.is("best(" + t + ") of nobody", new TrouserSand().best(t), RANGE);
        }
        Due.is("what was told stays", row(x), 12);
    }

    private static void goes() {
        Due.promise(36, "By the latest best(), who is i-th, what 0: his number, 1: when he is out");
        TrouserSand x = with(9, 5, 5, 3);
        x.best(8);
        Due.is("goes(0, 0)", x.goes(0, 0), 1);
        Due.is("goes(0, 1)", x.goes(0, 1), 5);
        Due.is("goes(1, 0)", x.goes(1, 0), 3);
        Due.is("goes(1, 1)", x.goes(1, 1), 8);
        x.round(0, 1);
        x.join(1, 0);
        Due.is("as it told, whoever comes: goes(1, 1)", x.goes(1, 1), 8);
        x.best(999);
        int[] outs = {10, 15, 20, 23, 24};
        for (int i = 0; i < 5; i++) {
            Due.is("goes(" + i + ", 0)", x.goes(i, 0), i);
            Due.is("goes(" + i + ", 1)", x.goes(i, 1), outs[i]);
        }
        x = with(1, 1, 1, 1, 1, 1, 1, 1);
        x.best(8);
        Due.is("the 8th: goes(7, 0)", x.goes(7, 0), 7);
        Due.is("the 8th: goes(7, 1)", x.goes(7, 1), 8);
        Due.promise(36, "NONE: none such");
        int[] places = {LEAST, -1, 8, 9, GREATEST};
        for (int i : places) {
            Due.is("goes(" + i + ", 0)", x.goes(i, 0), NONE);
            Due.is("goes(" + i + ", 1)", x.goes(i, 1), NONE);
        }
        int[] others = {LEAST, -1, 2, GREATEST};
        for (int what : others) {
            Due.is("goes(0, " + what + ")", x.goes(0, what), NONE);
        }
        x.best(3);
        Due.is("goes(2, 0)", x.goes(2, 0), 2);
        Due.is("no more than are out: goes(3, 0)", x.goes(3, 0), NONE);
        x.best(0);
        Due.is("none is out: goes(0, 0)", x.goes(0, 0), NONE);
        Due.promise(36, "or ahead of any");
        x = with(1, 2);
        Due.is("goes(0, 0)", x.goes(0, 0), NONE);
        Due.is("goes(0, 1)", x.goes(0, 1), NONE);
        Due.order(x, "01");
        Due.is("order() is no best(): goes(0, 0)", x.goes(0, 0), NONE);
        x.best(1000);
        Due.is("nor is one that is refused: goes(0, 0)", x.goes(0, 0), NONE);
    }
}
