/** Term IV, and promises 26 to 30: drift, string, right, where, up. */
public final class StringsTest {
    private static final int RANGE = TrouserSand.RANGE;
    private static final int FULL = TrouserSand.FULL;
    private static final int NOWHERE = -1000000;
    private static final int LEAST = Integer.MIN_VALUE;
    private static final int GREATEST = Integer.MAX_VALUE;

    public static void main(String[] args) {
        atMost16();
        stringBounds();
        neverFalling();
        putRight();
        headings();
        theEnd();
        offBy();
        beforeTheWire();
        inTheOpen();
        inTheWood();
        oneOrAnother();
        drift();
        string();
        right();
        rightFull();
        where();
        up();
        Due.finish();
    }

    private static void atMost16() {
        Due.term("IV", "STRINGS, at most 16, numbered from 0");
        TrouserSand x = new TrouserSand();
        for (int k = 0; k < 16; k++) {
            Due.is("string", x.string(k, 1, 0, 0), k);
        }
        Due.is("the 17th", x.string(16, 1, 0, 0), FULL);
        Due.is("count(2)", x.count(2), 16);
        Due.is("where(999, 0)", x.where(999, 0), 160);
        Due.is("right of the 16th", x.right(16, 15, 2), 1);
        Due.is("right of the 17th", x.right(16, 16, 2), RANGE);
    }

    private static void stringBounds() {
        Due.term("IV", "feet 1 .. 99, a HEADING 0 .. 7, slack 0 .. 9 feet");
        TrouserSand x = new TrouserSand();
        Due.is("the least", x.string(0, 1, 0, 0), 0);
        Due.is("the greatest", x.string(0, 99, 7, 9), 1);
        Due.is("feet 0", x.string(0, 0, 0, 0), RANGE);
        Due.is("feet 100", x.string(0, 100, 0, 0), RANGE);
        Due.is("HEADING -1", x.string(0, 1, -1, 0), RANGE);
        Due.is("HEADING 8", x.string(0, 1, 8, 0), RANGE);
        Due.is("slack -1", x.string(0, 1, 0, -1), RANGE);
        Due.is("slack 10", x.string(0, 1, 0, 10), RANGE);
        Due.is("count(2)", x.count(2), 2);
    }

    private static void neverFalling() {
        Due.term("IV", "told at a STEP of telling (0 .. 999, never falling)");
        TrouserSand x = new TrouserSand();
        Due.is("STEP -1", x.string(-1, 1, 0, 0), RANGE);
        Due.is("STEP 1000", x.string(1000, 1, 0, 0), RANGE);
        Due.is("STEP 0", x.string(0, 1, 0, 0), 0);
        Due.is("the same STEP", x.string(0, 1, 0, 0), 1);
        Due.is("a later STEP", x.string(7, 1, 0, 0), 2);
        Due.is("an earlier STEP", x.string(6, 1, 0, 0), RANGE);
        Due.is("an earlier STEP", x.right(6, 0, 1), RANGE);
        Due.is("a later STEP", x.right(9, 0, 1), 1);
        Due.is("a putting RIGHT is a telling too", x.string(8, 1, 0, 0), RANGE);
        Due.is("and so for another", x.right(8, 0, 1), RANGE);
        Due.is("STEP 999", x.string(999, 1, 0, 0), 3);
        Due.is("STEP 999 again", x.right(999, 3, 1), 1);
        Due.is("STEP 998", x.string(998, 1, 0, 0), RANGE);
        Due.is("STEP 1000", x.right(1000, 0, 1), RANGE);
        Due.is("STEP -1", x.right(-1, 0, 1), RANGE);
        // What is refused is no STEP of telling.
        x = new TrouserSand();
        Due.is("feet 0 at STEP 5", x.string(5, 0, 0, 0), RANGE);
        Due.is("STEP 4", x.string(4, 1, 0, 0), 0);
        Due.is("feet 0 at STEP 9", x.right(9, 0, 0), RANGE);
        Due.is("no such STRING at STEP 9", x.right(9, 1, 1), RANGE);
        Due.is("STEP 5", x.string(5, 1, 0, 0), 1);
        Due.is("where() at STEP 900", x.where(900, 0), 20);
        Due.is("STEP 5", x.string(5, 1, 0, 0), 2);
    }

    private static void putRight() {
        Due.term("IV", "perhaps put RIGHT later (the feet)");
        TrouserSand x = new TrouserSand();
        x.string(1, 10, 0, 3);
        x.string(1, 10, 2, 0);
        x.right(1, 0, 12);
        x.right(1, 0, 13);
        x.right(5, 1, 20);
        x.right(7, 0, 1);
        Due.is("along at 1: the latest of this STEP", x.where(1, 0), 130);
        Due.is("across at 4", x.where(4, 1), 100);
        Due.is("across at 5", x.where(5, 1), 200);
        Due.is("along at 6", x.where(6, 0), 130);
        Due.is("along at 7", x.where(7, 0), 10);
        Due.is("along at 999", x.where(999, 0), 10);
        Due.is("across at 999", x.where(999, 1), 200);
        Due.is("the slack stays", x.where(999, 2), 30);
    }

    private static void headings() {
        Due.term("IV", "HEADING 0 (10, 0), 1 (7, 7), 2 (0, 10), 3 (-7, 7), 4 (-10, 0), 5 (-7, -7), 6 (0, -10), 7 (7, -7) for each foot");
        int[] along = {10, 7, 0, -7, -10, -7, 0, 7};
        int[] across = {0, 7, 10, 7, 0, -7, -10, -7};
        for (int heading = 0; heading < 8; heading++) {
            for (int feet = 1; feet < 100; feet += 49) {
                TrouserSand x = new TrouserSand();
                x.string(0, feet, heading, 0);
                Due.is("along, HEADING " + heading, x.where(0, 0), feet * along[heading]);
                Due.is("across, HEADING " + heading, x.where(0, 1), feet * across[heading]);
            }
        }
    }

    private static void theEnd() {
        Due.term("IV", "As known at a STEP: the END: of all STRINGS together");
        TrouserSand x = new TrouserSand();
        Due.is("none", x.where(0, 0), 0);
        x.string(3, 10, 0, 0);
        x.string(3, 5, 4, 0);
        x.string(4, 20, 3, 0);
        Due.is("none is known at 2", x.where(2, 0), 0);
        Due.is("along at 3", x.where(3, 0), 50);
        Due.is("across at 3", x.where(3, 1), 0);
        Due.is("along at 4", x.where(4, 0), -90);
        Due.is("across at 4", x.where(4, 1), 140);
        Due.is("along at 999", x.where(999, 0), -90);
        // The farthest: 16 of 99 feet.
        x = new TrouserSand();
        for (int k = 0; k < 16; k++) {
            x.string(0, 99, 4, 9);
        }
        Due.is("along", x.where(0, 0), -15840);
        Due.is("off", x.where(0, 2), 1440);
    }

    private static void offBy() {
        Due.term("IV", "it is off by at most (10 times slack, and drift times how many known ones are ahead of it) of each");
        TrouserSand x = new TrouserSand();
        x.drift(3);
        x.string(0, 1, 0, 2);
        x.string(1, 1, 0, 0);
        x.string(1, 1, 0, 1);
        Due.is("one: 20", x.where(0, 2), 20);
        Due.is("three: 20, 3, 16", x.where(1, 2), 39);
        Due.is("none is known: 0", Due.withCamp("").where(0, 2), 0);
        x = new TrouserSand();
        x.drift(20);
        for (int k = 0; k < 16; k++) {
            x.string(k, 1, 0, 9);
            Due.is("the most of " + (k + 1), x.where(k, 2), 90 * (k + 1) + 20 * k * (k + 1) / 2);
        }
        x = new TrouserSand();
        x.string(0, 1, 0, 0);
        x.string(0, 1, 0, 0);
        Due.is("no slack, no drift", x.where(0, 2), 0);
        // Ahead of it: told before it, at the same STEP too; not those behind it.
        x.drift(1);
        Due.is("one ahead", x.where(0, 2), 1);
        x.string(9, 1, 0, 0);
        Due.is("the third isn't known", x.where(8, 2), 1);
        Due.is("the third is", x.where(9, 2), 3);
    }

    /** HUT 0 is back feet back; one STRING goes straight towards the wire. */
    private static TrouserSand straight(int back, int wood, int feet, int slack) {
        TrouserSand x = Due.withCamp("hut a 0 " + back + " 1;wood " + wood + ";");
        x.string(0, feet, 2, slack);
        return x;
    }

    private static void beforeTheWire() {
        Due.term("IV", "0 surely before the wire (all of them 0 or less)");
        Due.is("at the wire", straight(20, 10, 20, 0).up(0, 0), 0);
        Due.is("one foot beyond", straight(20, 10, 21, 0).up(0, 0), 1);
        Due.is("off by as much as to the wire", straight(20, 10, 19, 1).up(0, 0), 0);
        Due.is("off by more", straight(20, 10, 20, 1).up(0, 0), 3);
        Due.is("no STRING", Due.withCamp("hut a 0 1 1;").up(0, 0), 0);
        TrouserSand x = Due.withCamp("hut a 0 1 1;");
        x.string(0, 99, 6, 0);
        Due.is("away from the wire", x.up(0, 0), 0);
        // In tenths: 3 feet of 7 tenths are 21, 2 feet back are 20.
        x = Due.withCamp("hut a 0 2 1;wood 9;");
        x.string(0, 3, 1, 0);
        Due.is("a tenth beyond", x.up(0, 0), 1);
        Due.term("IV", "UP: the END's second number less ten times how far the HUT is back");
        x = Due.withCamp("hut a 0 10 1;hut b 0 30 1;hut c 0 300 1;wood 10;");
        x.string(0, 35, 2, 0);
        Due.is("HUT 0", x.up(0, 0), 2);
        Due.is("HUT 1", x.up(1, 0), 1);
        Due.is("HUT 2", x.up(2, 0), 0);
        x = Due.withCamp("hut a 0 10 1;wood 10;");
        x.string(0, 35, 0, 0);
        Due.is("along the wire is no matter", x.up(0, 0), 0);
    }

    private static void inTheOpen() {
        Due.term("IV", "1 surely in the open");
        Due.is("one foot beyond the wire", straight(20, 10, 21, 0).up(0, 0), 1);
        Due.is("one foot before the wood", straight(20, 10, 29, 0).up(0, 0), 1);
        Due.is("off, but not to the wire", straight(20, 10, 22, 1).up(0, 0), 1);
        Due.is("off, but not to the wood", straight(20, 10, 28, 1).up(0, 0), 1);
        Due.is("off to the wire", straight(20, 10, 21, 1).up(0, 0), 3);
        Due.is("off to the wood", straight(20, 10, 29, 1).up(0, 0), 3);
        Due.is("off by 4 of 10", straight(20, 10, 25, 4).up(0, 0), 1);
        Due.is("off by 5 of 10", straight(20, 10, 25, 5).up(0, 0), 3);
        Due.is("wood 1 leaves a foot of it", straight(20, 1, 20, 0).up(0, 0), 0);
    }

    private static void inTheWood() {
        Due.term("IV", "2 surely in the wood (ten times wood or more)");
        Due.is("just in it", straight(20, 10, 30, 0).up(0, 0), 2);
        Due.is("one foot less", straight(20, 10, 29, 0).up(0, 0), 1);
        Due.is("off to just in it", straight(20, 10, 31, 1).up(0, 0), 2);
        Due.is("off by more", straight(20, 10, 30, 1).up(0, 0), 3);
        Due.is("wood 0", straight(20, 0, 21, 0).up(0, 0), 2);
        Due.is("wood 0, off", straight(20, 0, 21, 1).up(0, 0), 2);
        Due.is("wood 0, off by more", straight(20, 0, 21, 2).up(0, 0), 3);
        TrouserSand x = Due.withCamp("hut a 0 1 1;wood 300;");
        for (int k = 0; k < 4; k++) {
            x.string(k, 75, 2, 0);
        }
        Due.is("wood 300, 299 feet beyond", x.up(0, 3), 1);
        x.string(4, 1, 2, 0);
        Due.is("wood 300, 300 feet beyond", x.up(0, 4), 2);
    }

    private static void oneOrAnother() {
        Due.term("IV", "3 it may be one or another");
        Due.is("before the wire or in the open", straight(20, 10, 20, 1).up(0, 0), 3);
        Due.is("in the open or in the wood", straight(20, 10, 30, 1).up(0, 0), 3);
        Due.is("any of them", straight(20, 10, 25, 9).up(0, 0), 3);
        Due.is("before the wire or in the wood", straight(20, 0, 20, 1).up(0, 0), 3);
        // By the drift too.
        TrouserSand x = Due.withCamp("hut a 0 10 1;wood 10;");
        x.string(0, 10, 2, 0);
        x.string(0, 1, 2, 0);
        Due.is("no drift", x.up(0, 0), 1);
        x.drift(9);
        Due.is("drift 9 of 10", x.up(0, 0), 1);
        x.drift(10);
        Due.is("drift 10 of 10", x.up(0, 0), 3);
    }

    private static void drift() {
        Due.promise(26, "Tenths of feet by which each STRING that is known adds to the slack of all behind it (0 .. 20): what it was");
        TrouserSand x = new TrouserSand();
        Due.is("drift(20)", x.drift(20), 0);
        Due.is("drift(0)", x.drift(0), 20);
        Due.is("drift(3)", x.drift(3), 0);
        x.string(0, 1, 0, 0);
        x.string(0, 1, 0, 0);
        Due.is("off by 3", x.where(0, 2), 3);
        Due.is("drift(5)", x.drift(5), 3);
        Due.is("off by 5", x.where(0, 2), 5);
        Due.promise(26, "RANGE");
        int[] none = {LEAST, -1, 21, GREATEST};
        for (int tenths : none) {
            Due.is("drift(" + tenths + ")", x.drift(tenths), RANGE);
        }
        Due.is("off by 5 still", x.where(0, 2), 5);
        Due.is("drift(0)", x.drift(0), 5);
    }

    private static void string() {
        Due.promise(27, "A STRING told at a STEP: its number");
        TrouserSand x = new TrouserSand();
        Due.is("the first", x.string(0, 5, 2, 1), 0);
        Due.is("the second", x.string(4, 6, 2, 1), 1);
        Due.is("the third", x.string(999, 7, 2, 1), 2);
        Due.promise(27, "RANGE");
        x = new TrouserSand();
        x.string(10, 5, 2, 1);
        int[][] none = {{LEAST, 1, 0, 0}, {-1, 1, 0, 0}, {9, 1, 0, 0}, {1000, 1, 0, 0}, {GREATEST, 1, 0, 0}, {10, LEAST, 0, 0}, {10, -1, 0, 0},
            {10, 0, 0, 0}, {10, 100, 0, 0}, {10, GREATEST, 0, 0}, {10, 1, LEAST, 0}, {10, 1, -1, 0}, {10, 1, 8, 0}, {10, 1, GREATEST, 0},
            {10, 1, 0, LEAST}, {10, 1, 0, -1}, {10, 1, 0, 10}, {10, 1, 0, GREATEST}, {20, 0, 0, 0}};
        for (int[] n : none) {
            Due.is("string(" + n[0] + ", " + n[1] + ", " + n[2] + ", " + n[3] + ")", x.string(n[0], n[1], n[2], n[3]), RANGE);
        }
        Due.is("count(2) stays", x.count(2), 1);
        Due.is("where(999, 1) stays", x.where(999, 1), 50);
        Due.is("where(999, 2) stays", x.where(999, 2), 10);
        Due.is("the latest STEP stays", x.string(10, 1, 0, 0), 1);
        Due.promise(27, "FULL");
        for (int k = 2; k < 16; k++) {
            x.string(10, 1, 0, 0);
        }
        Due.is("the 17th", x.string(10, 1, 0, 0), FULL);
        Due.is("the 17th, at STEP 50", x.string(50, 1, 0, 0), FULL);
        Due.is("FULL leaves the latest STEP", x.right(10, 0, 5), 1);
        Due.is("count(2) stays", x.count(2), 16);
        Due.is("where(999, 0) stays", x.where(999, 0), 150);
        Due.is("RANGE ahead of FULL: STEP 9", x.string(9, 1, 0, 0), RANGE);
        Due.is("RANGE ahead of FULL: feet 0", x.string(10, 0, 0, 0), RANGE);
        Due.is("RANGE ahead of FULL: HEADING 8", x.string(10, 1, 8, 0), RANGE);
        Due.is("RANGE ahead of FULL: slack 10", x.string(10, 1, 0, 10), RANGE);
    }

    private static void right() {
        Due.promise(28, "One of these is put RIGHT at a STEP: how often it was");
        TrouserSand x = new TrouserSand();
        x.string(1, 10, 0, 0);
        x.string(1, 10, 2, 0);
        Due.is("at its own STEP", x.right(1, 0, 12), 1);
        Due.is("once more", x.right(1, 0, 99), 2);
        Due.is("the other", x.right(5, 1, 1), 1);
        Due.is("the first again", x.right(7, 0, 1), 3);
        Due.is("to the feet that it has", x.right(7, 0, 1), 4);
        Due.is("count(3)", x.count(3), 5);
        Due.promise(28, "RANGE");
        x = new TrouserSand();
        Due.is("no STRING yet", x.right(0, 0, 1), RANGE);
        x.string(1, 10, 0, 0);
        x.string(1, 10, 2, 0);
        int[] steps = {LEAST, -1, 0, 1000, GREATEST};
        for (int step : steps) {
            Due.is("right(" + step + ", 0, 1)", x.right(step, 0, 1), RANGE);
        }
        int[] strings = {LEAST, -1, 2, 15, 16, GREATEST};
        for (int k : strings) {
            Due.is("right(9, " + k + ", 1)", x.right(9, k, 1), RANGE);
        }
        int[] feet = {LEAST, -1, 0, 100, GREATEST};
        for (int f : feet) {
            Due.is("right(9, 0, " + f + ")", x.right(9, 0, f), RANGE);
        }
        Due.is("count(3) stays", x.count(3), 0);
        Due.is("where(999, 0) stays", x.where(999, 0), 100);
        Due.is("the latest STEP stays", x.right(1, 0, 7), 1);
    }

    private static void rightFull() {
        Due.promise(28, "FULL: the 21st in all");
        TrouserSand x = new TrouserSand();
        x.string(1, 10, 0, 0);
        x.string(1, 10, 2, 0);
        for (int n = 1; n <= 20; n++) {
            Due.is("the " + n + "th", x.right(2, n % 2, n), (n + 1) / 2);
        }
        Due.is("the 21st", x.right(2, 1, 50), FULL);
        Due.is("the 21st, of the other", x.right(2, 0, 50), FULL);
        Due.is("the 21st, at STEP 9", x.right(9, 0, 50), FULL);
        Due.is("count(3) stays", x.count(3), 20);
        Due.is("where(999, 0) stays", x.where(999, 0), 200);
        Due.is("where(999, 1) stays", x.where(999, 1), 190);
        Due.is("the latest STEP stays", x.string(2, 1, 0, 0), 2);
        Due.is("RANGE ahead of FULL: STEP 1", x.right(1, 0, 5), RANGE);
        Due.is("RANGE ahead of FULL: STRING 3", x.right(2, 3, 5), RANGE);
        Due.is("RANGE ahead of FULL: feet 0", x.right(2, 0, 0), RANGE);
    }

    private static void where() {
        Due.promise(29, "The END as known at a STEP, what 0: along the wire, 1: across, 2: by how much it may be off, in tenths");
        TrouserSand x = new TrouserSand();
        x.string(0, 10, 1, 2);
        x.string(999, 10, 6, 1);
        int[][] due = {{70, 70, 20}, {70, -30, 30}};
        for (int what = 0; what < 3; what++) {
            Due.is("where(0, " + what + ")", x.where(0, what), due[0][what]);
            Due.is("where(998, " + what + ")", x.where(998, what), due[0][what]);
            Due.is("where(999, " + what + ")", x.where(999, what), due[1][what]);
        }
        Due.promise(29, "RANGE (-1000000)");
        int[] steps = {LEAST, -1, 1000, GREATEST};
        int[] others = {LEAST, -1, 3, GREATEST};
        for (int step : steps) {
            for (int what = 0; what < 3; what++) {
                Due.is("where(" + step + ", " + what + ")", x.where(step, what), NOWHERE);
            }
        }
        for (int what : others) {
            Due.is("where(0, " + what + ")", x.where(0, what), NOWHERE);
        }
    }

    private static void up() {
        Due.promise(30, "UP of a TUNNEL from a HUT as known at a STEP");
        TrouserSand x = Due.withCamp("hut a 0 10 1;hut b 0 1 1;wood 5;");
        x.string(1, 11, 2, 0);
        x.right(3, 0, 15);
        x.string(4, 1, 0, 1);
        int[] due = {0, 1, 1, 2, 3};
        for (int step = 0; step < due.length; step++) {
            Due.is("up(0, " + step + ")", x.up(0, step), due[step]);
        }
        Due.is("up(0, 999)", x.up(0, 999), 3);
        Due.is("up(1, 0)", x.up(1, 0), 0);
        Due.is("up(1, 999)", x.up(1, 999), 2);
        Due.promise(30, "RANGE");
        int[] none = {LEAST, -1, 2, 5, GREATEST};
        for (int hut : none) {
            Due.is("up(" + hut + ", 0)", x.up(hut, 0), RANGE);
        }
        int[] steps = {LEAST, -1, 1000, GREATEST};
        for (int step : steps) {
            Due.is("up(0, " + step + ")", x.up(0, step), RANGE);
        }
    }
}
