/** Promises 37 and 38, and what Term V says of A LIST. */
public final class ListTest {
    private static final int NONE = TrouserSand.NONE;
    private static final int RANGE = TrouserSand.RANGE;
    private static final int LEAST = Integer.MIN_VALUE;
    private static final int GREATEST = Integer.MAX_VALUE;
    private static final int ALL = (1 << 30) - 1;

    public static void main(String[] args) {
        workersFirst();
        thenThoseWhoSpeak();
        ofAllOthers();
        bounds();
        inBoth();
        none();
        noneOrRange();
        howMany();
        listed();
        listedLatest();
        Due.finish();
    }

    /** Who is on the latest LIST, from one place up to another, as bits. */
    private static int members(TrouserSand x, int from, int to) {
        int bits = 0;
        for (int i = from; i < to; i++) {
            bits |= x.listed(i) < 0 ? 0 : 1 << x.listed(i);
        }
        return bits;
    }

    private static void workersFirst() {
        Due.term("V", "workers first, a told number of them drawn, one after the other, of those not drawn yet by their numbers");
        for (int seed = 0; seed < 20; seed++) {
            TrouserSand x = new TrouserSand();
            x.list(seed, 10, 0b1100110000, 3, 0, 0);
            Due.is("workers, seed " + seed, members(x, 0, 3) & ~0b1100110000, 0);
            Due.is("three of them", Integer.bitCount(members(x, 0, 3)), 3);
        }
        // By seed 1: 16838 of 2 is 0, then 5758 of 1, of 2 and of 1.
        TrouserSand x = new TrouserSand();
        Due.is("list", x.list(1, 4, 0b1010, 2, 0, 0), 4);
        Due.is("the first of 1 and 3", x.listed(0), 1);
        Due.is("3", x.listed(1), 3);
        // By seed 1 the first number is 16838: 16838 modulo 3 is 2.
        x.list(1, 3, 0b111, 1, 0, 0);
        Due.is("the third of three", x.listed(0), 2);
        x.list(1, 30, ALL, 1, 0, 0);
        Due.is("16838 modulo 30", x.listed(0), 8);
        // By seed 0 it is 0.
        x.list(0, 30, ALL, 1, 0, 0);
        Due.is("the first of thirty", x.listed(0), 0);
    }

    private static void thenThoseWhoSpeak() {
        Due.term("V", "then those who speak, likewise");
        for (int seed = 0; seed < 20; seed++) {
            TrouserSand x = new TrouserSand();
            x.list(seed, 10, 0b0000000111, 2, 0b1111000000, 3);
            Due.is("workers, seed " + seed, members(x, 0, 2) & ~0b0000000111, 0);
            Due.is("those who speak, seed " + seed, members(x, 2, 5) & ~0b1111000000, 0);
            Due.is("three of them", Integer.bitCount(members(x, 2, 5)), 3);
        }
        // No worker is told: those who speak are first.
        TrouserSand x = new TrouserSand();
        x.list(1, 3, 0, 0, 0b111, 1);
        Due.is("16838 modulo 3", x.listed(0), 2);
    }

    private static void ofAllOthers() {
        Due.term("V", "then of all others");
        TrouserSand x = new TrouserSand();
        Due.is("list", x.list(1, 4, 3, 1, 4, 1), 4);
        int[] due = {0, 2, 3, 1};
        for (int i = 0; i < 4; i++) {
            Due.is("listed(" + i + ")", x.listed(i), due[i]);
        }
        // Workers and those who speak that weren't drawn are among them.
        boolean early = false;
        for (int seed = 0; seed < 20; seed++) {
            x = new TrouserSand();
            x.list(seed, 6, 0b000111, 1, 0b011000, 1);
            Due.is("all six", members(x, 0, 6), 0b111111);
            early |= x.listed(2) <= 4;
        }
        Due.holds("not those alone who neither worked nor speak", early);
        // None is drawn of either: 16838 modulo 5.
        x.list(1, 5, 0b11111, 0, 0, 0);
        Due.is("all are others", x.listed(0), 3);
    }

    private static void bounds() {
        Due.promise(37, "A LIST by a seed (0 .. 2147483647) of n (1 .. 30)");
        TrouserSand x = new TrouserSand();
        Due.is("seed 0", x.list(0, 1, 0, 0, 0, 0), 1);
        Due.is("seed 2147483647", x.list(GREATEST, 30, ALL, 30, 0, 0), 30);
        Due.is("seed -1", x.list(-1, 3, 0, 0, 0, 0), RANGE);
        Due.is("seed least", x.list(LEAST, 3, 0, 0, 0, 0), RANGE);
        Due.is("n 1", x.list(1, 1, 1, 1, 0, 0), 1);
        Due.is("n 30", x.list(1, 30, 0, 0, ALL, 30), 30);
        Due.is("n 0", x.list(1, 0, 0, 0, 0, 0), RANGE);
        Due.is("n -1", x.list(1, -1, 0, 0, 0, 0), RANGE);
        Due.is("n 31", x.list(1, 31, 0, 0, 0, 0), RANGE);
        Due.is("n 32", x.list(1, 32, 0, 0, 0, 0), RANGE);
        Due.is("n 33", x.list(1, 33, 0, 0, 0, 0), RANGE);
        Due.is("n greatest", x.list(1, GREATEST, 0, 0, 0, 0), RANGE);
        Due.is("n least", x.list(1, LEAST, 0, 0, 0, 0), RANGE);
        // The seed alone tells: the same again, whatever was drawn before.
        x.list(77, 30, 0, 0, 0, 0);
        int first = x.listed(0);
        int last = x.listed(29);
        x.list(78, 30, 0, 0, 0, 0);
        x.list(77, 30, 0, 0, 0, 0);
        Due.is("listed(0) by the same seed", x.listed(0), first);
        Due.is("listed(29) by the same seed", x.listed(29), last);
        // And THE CHANCE of falls goes on as it was: 38 of 100, then 58.
        x = Due.withCamp("hut a 0 1 9;pace 10;fall 39;");
        x.open(0);
        x.list(99, 5, 0, 0, 0, 0);
        Due.is("38 of 100", x.shift(0, 1), 0);
        x.list(99, 5, 0, 0, 0, 0);
        Due.is("58 of 100", x.shift(0, 1), 1);
    }

    private static void inBoth() {
        Due.promise(37, "(who is in both is a worker)");
        TrouserSand x = new TrouserSand();
        Due.is("no one else speaks", x.list(1, 3, 0b001, 0, 0b001, 1), NONE);
        Due.is("one else speaks", x.list(1, 3, 0b001, 0, 0b011, 1), 3);
        Due.is("he", x.listed(0), 1);
        Due.is("not two", x.list(1, 3, 0b001, 0, 0b011, 2), NONE);
        Due.is("as a worker he is drawn", x.list(1, 3, 0b001, 1, 0b001, 0), 3);
        Due.is("he", x.listed(0), 0);
        Due.is("all are both", x.list(1, 30, ALL, 30, ALL, 0), 30);
        Due.is("all are both, one speaks", x.list(1, 30, ALL, 0, ALL, 1), NONE);
    }

    private static void none() {
        Due.promise(37, "NONE: there are not so many");
        TrouserSand x = new TrouserSand();
        Due.is("2 of 2 work", x.list(1, 3, 0b011, 2, 0, 0), 3);
        Due.is("3 of 2 work", x.list(1, 3, 0b011, 3, 0, 0), NONE);
        Due.is("1 of none works", x.list(1, 3, 0, 1, 0, 0), NONE);
        Due.is("2 of 2 speak", x.list(1, 3, 0, 0, 0b110, 2), 3);
        Due.is("3 of 2 speak", x.list(1, 3, 0, 0, 0b110, 3), NONE);
        Due.is("1 of none speaks", x.list(1, 3, 0b111, 3, 0, 1), NONE);
        Due.is("31 of 30 work", x.list(1, 30, ALL, 31, 0, 0), NONE);
        Due.is("so very many work", x.list(1, 3, 0b111, GREATEST, 0, 0), NONE);
        Due.is("so very many speak", x.list(1, 3, 0, 0, 0b111, GREATEST), NONE);
        Due.is("both so very many", x.list(1, 3, 0b001, GREATEST, 0b110, GREATEST), NONE);
        Due.is("just so many of both", x.list(1, 3, 0b001, 1, 0b110, 2), 3);
    }

    private static void noneOrRange() {
        Due.promise(37, "RANGE");
        TrouserSand x = new TrouserSand();
        for (int n = 1; n < 30; n++) {
            Due.is("workers beyond " + n, x.list(1, n, 1 << n, 0, 0, 0), RANGE);
            Due.is("speak beyond " + n, x.list(1, n, 0, 0, 1 << n, 0), RANGE);
        }
        Due.is("workers beyond 30", x.list(1, 30, 1 << 30, 0, 0, 0), RANGE);
        Due.is("speak beyond 30", x.list(1, 30, 0, 0, 1 << 30, 0), RANGE);
        Due.is("workers -1", x.list(1, 30, -1, 0, 0, 0), RANGE);
        Due.is("speak -1", x.list(1, 30, 0, 0, -1, 0), RANGE);
        Due.is("workers least", x.list(1, 30, LEAST, 0, 0, 0), RANGE);
        Due.is("speak least", x.list(1, 30, 0, 0, LEAST, 0), RANGE);
        Due.is("speak beyond, who are workers too", x.list(1, 3, 0b1000, 0, 0b1000, 0), RANGE);
        Due.is("first -1", x.list(1, 3, 1, -1, 0, 0), RANGE);
        Due.is("then -1", x.list(1, 3, 1, 0, 2, -1), RANGE);
        Due.is("first least", x.list(1, 3, 1, LEAST, 0, 0), RANGE);
        Due.is("then least", x.list(1, 3, 1, 0, 2, LEAST), RANGE);
        // What is out of range is so, however many there are.
        Due.is("RANGE ahead of NONE: seed", x.list(-1, 3, 0, 9, 0, 0), RANGE);
        Due.is("RANGE ahead of NONE: n", x.list(1, 31, 0, 9, 0, 0), RANGE);
        Due.is("RANGE ahead of NONE: workers", x.list(1, 3, 8, 9, 0, 0), RANGE);
        Due.is("RANGE ahead of NONE: speak", x.list(1, 3, 0, 9, 8, 0), RANGE);
    }

    private static void howMany() {
        Due.promise(37, "else how many there are");
        TrouserSand x = new TrouserSand();
        for (int n = 1; n <= 30; n++) {
            Due.is("list of " + n, x.list(n, n, 0, 0, 0, 0), n);
            Due.is("the last: listed(" + (n - 1) + ")", x.listed(n - 1) >= 0 ? 1 : 0, 1);
            Due.is("beyond: listed(" + n + ")", x.listed(n), NONE);
        }
        x.list(5, 30, ALL, 10, 0, 0);
        Due.is("each once", members(x, 0, 30), ALL);
    }

    private static void listed() {
        Due.promise(38, "Who is i-th on the latest LIST that told a number");
        TrouserSand x = new TrouserSand();
        x.list(0, 1, 1, 1, 0, 0);
        Due.is("listed(0)", x.listed(0), 0);
        x.list(1, 4, 3, 1, 4, 1);
        Due.is("listed(3)", x.listed(3), 1);
        x.list(0, 1, 1, 1, 0, 0);
        Due.is("of a shorter one: listed(0)", x.listed(0), 0);
        Due.is("of a shorter one: listed(1)", x.listed(1), NONE);
        Due.promise(38, "NONE");
        Due.is("ahead of any", new TrouserSand().listed(0), NONE);
        x.list(0, 30, 0, 0, 0, 0);
        int[] places = {LEAST, -1, 30, 31, GREATEST};
        for (int i : places) {
            Due.is("listed(" + i + ")", x.listed(i), NONE);
        }
        x = new TrouserSand();
        x.list(1, 3, 3, 3, 0, 0);
        Due.is("none told a number", x.listed(0), NONE);
        x.list(1, 31, 0, 0, 0, 0);
        Due.is("none told a number", x.listed(0), NONE);
    }

    private static void listedLatest() {
        Due.promise(38, "the latest LIST that told a number");
        TrouserSand x = new TrouserSand();
        int[] due = {0, 2, 3, 1};
        x.list(1, 4, 3, 1, 4, 1);
        Due.is("NONE", x.list(5, 4, 3, 3, 4, 1), NONE);
        Due.is("NONE", x.list(5, 30, 0, 0, 0, 1), NONE);
        Due.is("RANGE", x.list(-1, 4, 3, 1, 4, 1), RANGE);
        Due.is("RANGE", x.list(5, 31, 3, 1, 4, 1), RANGE);
        Due.is("RANGE", x.list(5, 0, 0, 0, 0, 0), RANGE);
        for (int i = 0; i < 4; i++) {
            Due.is("listed(" + i + ") stays", x.listed(i), due[i]);
        }
        Due.is("listed(4) stays", x.listed(4), NONE);
        x.morning();
        x.best(5);
        x.chance(3);
        Due.is("listed(2) stays", x.listed(2), 3);
    }
}
