/** Promises 1 to 3, and what Term I says of THE TAPE. */
public final class TapeTest {
    private static final int NONE = TrouserSand.NONE;
    private static final int RANGE = TrouserSand.RANGE;
    private static final int FULL = TrouserSand.FULL;
    private static final int STATE = TrouserSand.STATE;
    private static final int BLANKS = 0x20202020;
    private static final int LEAST = Integer.MIN_VALUE;
    private static final int GREATEST = Integer.MAX_VALUE;

    public static void main(String[] args) {
        nothingIsTold();
        noHut();
        noneYet();
        atMost900();
        readingEmpties();
        feedComesBehind();
        feedHighestFirst();
        feedFull();
        endCuts();
        endNone();
        Due.finish();
    }

    private static int feedBlanks(TrouserSand x) {
        return x.feed(BLANKS, BLANKS, BLANKS, BLANKS, BLANKS);
    }

    /** A new object with so many bytes, all blanks. */
    private static TrouserSand withBlanks(int bytes) {
        TrouserSand x = new TrouserSand();
        for (int n = 0; n < bytes; n += 20) {
            feedBlanks(x);
        }
        x.end(bytes);
        return x;
    }

    private static void nothingIsTold() {
        Due.promise(1, "A CAMP of which nothing is told.");
        TrouserSand x = new TrouserSand();
        int[] untold = {0, 0, 0, 200, 100, 10, 6, 200, 2, 60, 5, 0, 8, 4};
        for (int what = 0; what < 110; what++) {
            Due.is("told(" + what + ")", x.told(what), what < untold.length ? untold[what] : NONE);
        }
        for (int what = 0; what < 8; what++) {
            Due.is("count(" + what + ")", x.count(what), 0);
        }
        Due.is("fault(0)", x.fault(0), 0);
        Due.is("fault(1)", x.fault(1), NONE);
        Due.is("needed(3, 10)", x.needed(3, 10), 1);
        Due.is("kept(0, 400)", x.kept(0, 400), 1000000);
        Due.is("kept(1, 1)", x.kept(1, 1), RANGE);
        Due.is("across(201, 0, 0)", x.across(201, 0, 0), RANGE);
        Due.is("across(200, 0, 0)", x.across(200, 0, 0), 0);
    }

    /** A CAMP with no HUT: every call that wants one is refused, all sums are 0. */
    private static void noHut() {
        Due.promise(1, "A CAMP of which nothing is told.");
        TrouserSand x = new TrouserSand();
        Due.is("run(0, 0)", x.run(0, 0), RANGE);
        Due.is("open(0)", x.open(0), RANGE);
        Due.is("shift(0, 1)", x.shift(0, 1), RANGE);
        Due.is("tunnel(0, 0)", x.tunnel(0, 0), RANGE);
        Due.is("lies(0)", x.lies(0), RANGE);
        Due.is("carry(0, 0, 1)", x.carry(0, 0, 1), RANGE);
        Due.is("had(0)", x.had(0), RANGE);
        Due.is("gone(0, 0)", x.gone(0, 0), RANGE);
        Due.is("up(0, 0)", x.up(0, 0), RANGE);
        Due.is("boards()", x.boards(), 0);
        Due.is("most(1)", x.most(1), 0);
        Due.is("most(99)", x.most(99), 0);
        Due.is("until()", x.until(), 0);
        Due.is("runners()", x.runners(), 0);
        Due.is("wrong()", x.wrong(), 0);
        Due.is("across(0, 0, 0)", x.across(0, 0, 0), 0);
        Due.is("across(0, 200, 1)", x.across(0, 200, 1), 0);
        Due.is("keep(0)", x.keep(0), 0);
        Due.is("take(0)", x.take(0), 0);
    }

    private static void noneYet() {
        Due.promise(1, "A CAMP of which nothing is told.");
        TrouserSand x = new TrouserSand();
        Due.is("take(0)", x.take(0), STATE);
        Due.is("take(1)", x.take(1), STATE);
        Due.is("where(0, 0)", x.where(0, 0), 0);
        Due.is("where(999, 1)", x.where(999, 1), 0);
        Due.is("where(999, 2)", x.where(999, 2), 0);
        Due.is("drift(0)", x.drift(0), 0);
        Due.is("right(0, 0, 1)", x.right(0, 0, 1), RANGE);
        Due.is("the latest STEP is 0: string(0, 1, 0, 0)", x.string(0, 1, 0, 0), 0);
        Due.is("goes(0, 0)", x.goes(0, 0), NONE);
        Due.is("listed(0)", x.listed(0), NONE);
        Due.is("best(0)", x.best(0), 0);
        Due.is("best(999)", x.best(999), 0);
        Due.is("morning()", x.morning(), 0);
        Due.is("order()", x.order(), 0);
        Due.is("camp()", x.camp(), 0);
    }

    private static void atMost900() {
        Due.term("I", "THE TAPE has at most 900 bytes");
        TrouserSand x = new TrouserSand();
        for (int n = 1; n <= 45; n++) {
            Due.is("feed " + n, feedBlanks(x), 20 * n);
        }
        Due.is("feed 46", feedBlanks(x), FULL);
        Due.is("count(7)", x.count(7), 900);
        // All 900 are read: a FAULT in the last one is found.
        StringBuilder text = new StringBuilder();
        while (text.length() < 899) {
            text.append(' ');
        }
        Due.faulty(text + "!", 1, 899);
        Due.good(text.substring(0, 890) + "wood 0030;", 1);
    }

    private static void readingEmpties() {
        Due.term("I", "each call that reads it empties it, whatever it tells");
        TrouserSand x = new TrouserSand();
        x.join(5, 0);
        Due.feed(x, "wide 10;");
        Due.is("camp()", x.camp(), 1);
        Due.is("count(7) behind a good camp()", x.count(7), 0);
        Due.is("camp() again", x.camp(), 0);
        Due.is("told(3)", x.told(3), 200);
        Due.feed(x, "wide 9;");
        Due.is("camp()", x.camp(), NONE);
        Due.is("count(7) behind a faulty camp()", x.count(7), 0);
        Due.is("end(1)", x.end(1), NONE);
        Due.feed(x, "0");
        Due.is("order()", x.order(), 5);
        Due.is("count(7) behind order()", x.count(7), 0);
        Due.is("order() again", x.order(), 0);
        Due.feed(x, "00");
        Due.is("order()", x.order(), NONE);
        Due.is("count(7) behind an order() that is none", x.count(7), 0);
    }

    private static void feedComesBehind() {
        Due.promise(2, "Twenty bytes come behind THE TAPE");
        TrouserSand x = new TrouserSand();
        Due.is("feed", x.feed(0x77696465, 0x20313030, 0x3b776f6f, 0x64203530, 0x3b736169), 20);
        Due.is("end(18)", x.end(18), 18);
        // 'sand 77;' begins with the last byte that is left: what end() cut is no more.
        Due.is("feed", x.feed(0x616e6420, 0x37373b20, BLANKS, BLANKS, 0x2061ff00), 38);
        Due.is("end(35)", x.end(35), 35);
        Due.is("camp()", x.camp(), 3);
        Due.is("told(3)", x.told(3), 100);
        Due.is("told(4)", x.told(4), 50);
        Due.is("told(5)", x.told(5), 77);
        Due.promise(2, "how many it has");
        x = new TrouserSand();
        Due.is("feed", feedBlanks(x), 20);
        Due.is("end(7)", x.end(7), 7);
        Due.is("feed", feedBlanks(x), 27);
        Due.is("count(7)", x.count(7), 27);
    }

    private static void feedHighestFirst() {
        Due.promise(2, "the highest of each int first");
        TrouserSand x = new TrouserSand();
        x.feed(0x776f6f64, 0x20313233, 0x3b000000, 0, 0);
        Due.is("end(9)", x.end(9), 9);
        Due.is("camp() of 'wood 123;'", x.camp(), 1);
        Due.is("told(4)", x.told(4), 123);
        // Each of the twenty places, with a byte whose sign bit is set.
        for (int place = 0; place < 20; place++) {
            int[] five = {BLANKS, BLANKS, BLANKS, BLANKS, BLANKS};
            five[place / 4] ^= (0x20 ^ 0x80) << 24 - 8 * (place % 4);
            x.feed(five[0], five[1], five[2], five[3], five[4]);
            Due.is("camp() with byte 128 at " + place, x.camp(), NONE);
            Due.is("fault(1)", x.fault(1), place);
        }
    }

    private static void feedFull() {
        Due.promise(2, "FULL when there would be more than 900");
        TrouserSand x = withBlanks(881);
        Due.is("feed at 881", feedBlanks(x), FULL);
        Due.is("count(7)", x.count(7), 881);
        x = withBlanks(880);
        Due.is("feed at 880", feedBlanks(x), 900);
        Due.is("feed at 900", feedBlanks(x), FULL);
        // What FULL refuses leaves no byte behind.
        x = withBlanks(881);
        x.feed(-1, -1, -1, -1, -1);
        Due.is("camp() behind FULL", x.camp(), 0);
        x = withBlanks(899);
        Due.is("feed at 899", x.feed(0, 0, 0, 0, 0), FULL);
        Due.is("end(899)", x.end(899), 899);
        Due.is("camp()", x.camp(), 0);
        Due.is("feed behind camp()", feedBlanks(x), 20);
    }

    private static void endCuts() {
        Due.promise(3, "THE TAPE has its first n bytes alone: n");
        TrouserSand x = withBlanks(40);
        Due.is("end(40)", x.end(40), 40);
        Due.is("count(7)", x.count(7), 40);
        Due.is("end(39)", x.end(39), 39);
        Due.is("end(1)", x.end(1), 1);
        Due.is("count(7)", x.count(7), 1);
        Due.is("end(0)", x.end(0), 0);
        Due.is("count(7)", x.count(7), 0);
        Due.is("end(0) of none", x.end(0), 0);
        // The first ones, not the last ones.
        x.feed(0x77696465, 0x20313030, 0x3b776f6f, 0x64203530, 0x3b202020);
        Due.is("end(9)", x.end(9), 9);
        Due.is("camp() of 'wide 100;'", x.camp(), 1);
        Due.is("told(3)", x.told(3), 100);
        x = withBlanks(900);
        Due.is("end(900)", x.end(900), 900);
    }

    private static void endNone() {
        Due.promise(3, "NONE when it has not so many");
        TrouserSand x = new TrouserSand();
        Due.is("end(1) of none", x.end(1), NONE);
        x = withBlanks(20);
        Due.is("end(21)", x.end(21), NONE);
        Due.is("end(greatest)", x.end(GREATEST), NONE);
        Due.is("count(7) stays", x.count(7), 20);
        Due.is("end(19)", x.end(19), 19);
        Due.is("end(20)", x.end(20), NONE);
        x = withBlanks(900);
        Due.is("end(901)", x.end(901), NONE);
        Due.is("count(7) stays", x.count(7), 900);
        Due.promise(3, "or n is below 0");
        x = withBlanks(20);
        Due.is("end(-1)", x.end(-1), NONE);
        Due.is("end(least)", x.end(LEAST), NONE);
        Due.is("count(7) stays", x.count(7), 20);
        x = new TrouserSand();
        Due.is("end(-1) of none", x.end(-1), NONE);
    }
}
