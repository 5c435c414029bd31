/** Promises 23 to 25, and what Term III says of LOOKS. */
public final class LooksTest {
    private static final int NONE = TrouserSand.NONE;
    private static final int RANGE = TrouserSand.RANGE;
    private static final int LEAST = Integer.MIN_VALUE;
    private static final int GREATEST = Integer.MAX_VALUE;

    public static void main(String[] args) {
        inForce();
        keptIsCut();
        shiftsNeeded();
        parts();
        cannot();
        bothCut();
        greatest();
        kept();
        needed();
        second();
        secondRange();
        Due.finish();
    }

    private static void inForce() {
        Due.term("III", "LOOKS in force, as bits");
        TrouserSand x = Due.withCamp("look a 10;look b 20;look c 30;look d 40;");
        int[] left = {90, 80, 70, 60};
        for (int bits = 0; bits < 16; bits++) {
            int due = 1000000;
            for (int l = 0; l < 4; l++) {
                due = (bits >> l & 1) != 0 ? due / 100 * left[l] : due;
            }
            Due.is("kept(" + bits + ", 1)", x.kept(bits, 1), due);
        }
    }

    private static void keptIsCut() {
        Due.term("III", "from 1000000 on, d times, for each LOOK in force: it becomes it times (100 less its number) over 100 (cut)");
        Due.is("none in force", Due.withCamp("look a 99;").kept(0, 400), 1000000);
        Due.is("0 days", Due.withCamp("look a 99;").kept(1, 0), 1000000);
        TrouserSand x = Due.withCamp("look a 33;");
        int[] due = {1000000, 670000, 448900, 300763, 201511, 135012, 90458, 60606};
        for (int d = 0; d < due.length; d++) {
            Due.is("33 of a hundred: kept(1, " + d + ")", x.kept(1, d), due[d]);
        }
        // Each LOOK is cut by itself, the least first.
        Due.is("3, then 1", Due.withCamp("look a 3;look b 1;").kept(3, 3), 885564);
        Due.is("1, then 3", Due.withCamp("look a 1;look b 3;").kept(3, 3), 885565);
        x = Due.withCamp("look a 99;look b 0;");
        int[] hundredths = {1000000, 10000, 100, 1, 0, 0};
        for (int d = 0; d < hundredths.length; d++) {
            Due.is("99 of a hundred: kept(1, " + d + ")", x.kept(1, d), hundredths[d]);
        }
        Due.is("0 of a hundred", x.kept(2, 400), 1000000);
        Due.is("1 of a hundred, 400 days", Due.withCamp("look a 1;").kept(1, 400) > 0 ? 1 : 0, 1);
    }

    private static void shiftsNeeded() {
        Due.term("III", "how many SHIFTS, one a day, without boards or falls, from the beginning on");
        TrouserSand x = Due.withCamp("hut a 0 1 1;bed 0 0;board 9;fall 50;pace 10;air 10;");
        Due.is("no boards, falls", x.needed(5, 1), 5);
        // Others at the pump as it becomes longer: 10 feet by two a day, then by one alone.
        Due.is("needed(10, 2)", x.needed(10, 2), 5);
        Due.is("needed(11, 2)", x.needed(11, 2), 6);
        Due.is("needed(20, 2)", x.needed(20, 2), 15);
        Due.is("needed(21, 2)", x.needed(21, 2), NONE);
        // Whatever has been dug.
        x.open(0);
        x.shift(0, 9);
        Due.is("needed(5, 1)", x.needed(5, 1), 5);
        Due.is("and nothing is dug by it", x.tunnel(0, 3), 1);
        // What is over stays.
        x = Due.withCamp("pace 3;");
        Due.is("3 feet of 9 tenths a day", x.needed(3, 3), 4);
        Due.is("needed(9, 3)", x.needed(9, 3), 10);
        Due.term("III", "none if not by 400");
        x = Due.withCamp("pace 1;air 200;");
        Due.is("in 400", x.needed(40, 1), 400);
        Due.is("in 410", x.needed(41, 1), NONE);
        Due.is("by 200 men", x.needed(999, 200), 51);
    }

    private static void parts() {
        Due.term("III", "of M men q dig one of their own (0 .. M over 2, cut), the others the first");
        // A foot by one man takes two SHIFTS, by more of them one.
        TrouserSand x = Due.withCamp("look a 50;pace 5;");
        int[] q = {0, 0, 1, 2, 2, 2};
        int[] kept = {250000, 500000, 625000, 750000, 750000, 750000};
        for (int men = 1; men <= q.length; men++) {
            Due.is("q of " + men, x.second(men, 1, 1, 0), q[men - 1]);
            Due.is("kept of " + men, x.second(men, 1, 1, 1), kept[men - 1]);
        }
        // So many feet that just half of them are enough for a day.
        x = Due.withCamp("look a 90;pace 10;air 200;");
        Due.is("q of 200", x.second(200, 100, 1, 0), 100);
        Due.is("kept of 200", x.second(200, 100, 1, 1), 190000);
        Due.is("q of 199", x.second(199, 99, 1, 0), 99);
        Due.is("kept of 199", x.second(199, 99, 1, 1), 190000);
        Due.is("q of 199, one foot more", x.second(199, 100, 1, 0) < 99 ? 1 : 0, 1);
    }

    private static void cannot() {
        Due.term("III", "KEPT of each by what it NEEDS (0, if it can't or q is 0)");
        // Beyond 10 feet one man is at the pump: one alone can't.
        TrouserSand x = Due.withCamp("look a 1;pace 10;air 10;");
        Due.is("one can't: q", x.second(1, 11, 1, 0), 0);
        Due.is("one can't: kept", x.second(1, 11, 1, 1), 0);
        Due.is("one can't, no LOOK in force", x.second(1, 11, 0, 1), 0);
        Due.is("both together: q", x.second(2, 11, 1, 0), 0);
        Due.is("both together: kept", x.second(2, 11, 1, 1), x.kept(1, 6));
        Due.is("q is 0, no LOOK in force", x.second(2, 11, 0, 1), 1000000);
        Due.is("one by himself: q", x.second(1, 10, 1, 0), 0);
        Due.is("one by himself: kept", x.second(1, 10, 1, 1), x.kept(1, 10));
        Due.is("so many feet that none can", x.second(99, 999, 1, 1), 0);
        Due.is("so many feet that none can: q", x.second(99, 999, 1, 0), 0);
    }

    private static void bothCut() {
        Due.term("III", "1000000 less ((1000000 less a) times (1000000 less b) over 1000000, cut)");
        // a 250000, b 31250: 750000 times 968750 over 1000000 is 726562 and a half.
        TrouserSand x = Due.withCamp("look a 50;pace 10;");
        Due.is("q", x.second(4, 5, 1, 0), 1);
        Due.is("kept", x.second(4, 5, 1, 1), 273438);
        // Nothing is found: 0 times 0.
        x = Due.withCamp("look a 0;pace 10;");
        Due.is("kept", x.second(4, 5, 1, 1), 1000000);
        // More than an int: 1000000 times 990000.
        x = Due.withCamp("look a 99;pace 10;");
        Due.is("kept", x.second(2, 1, 1, 1), 19900);
    }

    private static void greatest() {
        Due.term("III", "the q with the greatest of these; of alike ones the least");
        TrouserSand x = Due.withCamp("look a 50;pace 10;air 200;");
        Due.is("1 to 100 alike", x.second(200, 1, 1, 0), 1);
        Due.is("kept", x.second(200, 1, 1, 1), 750000);
        Due.is("all alike", x.second(200, 1, 0, 0), 0);
        Due.is("all alike, none can", x.second(1, 999, 0, 0), 0);
        // 10 feet: 4 men in 3 days, 3 and 1 in 4 and 10, 2 and 2 in 5.
        Due.is("all at one", x.second(4, 10, 1, 0), 0);
        Due.is("kept", x.second(4, 10, 1, 1), 125000);
    }

    private static void kept() {
        Due.promise(23, "KEPT d days (0 .. 400) by LOOKS (bits)");
        TrouserSand x = Due.withCamp("look a 50;look b 10;look c 0;look d 99;");
        Due.is("kept(15, 0)", x.kept(15, 0), 1000000);
        Due.is("kept(15, 400)", x.kept(15, 400), 0);
        Due.is("kept(4, 400)", x.kept(4, 400), 1000000);
        Due.is("kept(1, 1)", x.kept(1, 1), 500000);
        Due.is("kept(3, 2)", x.kept(3, 2), 202500);
        Due.is("kept(8, 1)", x.kept(8, 1), 10000);
        Due.is("kept(0, 400) without a LOOK", new TrouserSand().kept(0, 400), 1000000);
        Due.promise(23, "RANGE");
        int[] days = {-1, 401, LEAST, GREATEST};
        for (int d : days) {
            Due.is("kept(1, " + d + ")", x.kept(1, d), RANGE);
            Due.is("kept(0, " + d + ")", x.kept(0, d), RANGE);
        }
        int[] bits = {-1, 16, 17, 31, LEAST, GREATEST};
        for (int looks : bits) {
            Due.is("kept(" + looks + ", 1)", x.kept(looks, 1), RANGE);
            Due.is("kept(" + looks + ", 0)", x.kept(looks, 0), RANGE);
        }
        String text = "";
        for (int n = 0; n < 4; n++) {
            x = Due.withCamp(text);
            Due.is("the greatest bits of " + n + " LOOKS", x.kept((1 << n) - 1, 0), 1000000);
            Due.is("bits beyond " + n + " LOOKS", x.kept(1 << n, 0), RANGE);
            text += "look " + (char) ('a' + n) + " 1;";
        }
    }

    private static void needed() {
        Due.promise(24, "NEEDED for so many feet (1 .. 999) by m men (0 .. 200): how many SHIFTS");
        TrouserSand x = Due.withCamp("air 10;pace 5;");
        Due.is("needed(1, 1)", x.needed(1, 1), 2);
        Due.is("needed(1, 2)", x.needed(1, 2), 1);
        Due.is("needed(1, 200)", x.needed(1, 200), 1);
        Due.is("needed(100, 200)", x.needed(100, 200), 1);
        Due.is("needed(101, 200)", x.needed(101, 200), 2);
        Due.is("needed(999, 200)", x.needed(999, 200), 14);
        Due.is("untold air and pace", new TrouserSand().needed(30, 60), 1);
        Due.promise(24, "NONE");
        Due.is("needed(1, 0)", x.needed(1, 0), NONE);
        Due.is("needed(999, 0)", x.needed(999, 0), NONE);
        Due.is("needed(10, 1)", x.needed(10, 1), 20);
        Due.is("needed(11, 1)", x.needed(11, 1), NONE);
        Due.promise(24, "RANGE");
        int[] feet = {LEAST, -1, 0, 1000, GREATEST};
        for (int f : feet) {
            Due.is("needed(" + f + ", 1)", x.needed(f, 1), RANGE);
            Due.is("RANGE ahead of NONE: needed(" + f + ", 0)", x.needed(f, 0), RANGE);
        }
        int[] men = {LEAST, -1, 201, GREATEST};
        for (int m : men) {
            Due.is("needed(1, " + m + ")", x.needed(1, m), RANGE);
        }
    }

    private static void second() {
        Due.promise(25, "SECOND of M men (1 .. 200), so many feet (1 .. 999), by LOOKS, what 0: q, 1: what is KEPT by both");
        TrouserSand x = Due.withCamp("look a 50;look b 10;air 200;pace 50;");
        Due.is("second(1, 1, 3, 0)", x.second(1, 1, 3, 0), 0);
        Due.is("second(1, 1, 3, 1)", x.second(1, 1, 3, 1), 450000);
        Due.is("second(2, 5, 2, 0)", x.second(2, 5, 2, 0), 1);
        Due.is("second(2, 5, 2, 1)", x.second(2, 5, 2, 1), 990000);
        // 100 men dig 500 feet a day.
        Due.is("second(200, 500, 1, 0)", x.second(200, 500, 1, 0), 100);
        Due.is("second(200, 500, 1, 1)", x.second(200, 500, 1, 1), 750000);
        Due.is("second(200, 999, 1, 1)", x.second(200, 999, 1, 1), 500000);
        Due.is("without a LOOK", new TrouserSand().second(2, 1, 0, 1), 1000000);
    }

    private static void secondRange() {
        Due.promise(25, "RANGE");
        TrouserSand x = Due.withCamp("look a 50;look b 10;air 10;pace 10;");
        int[] men = {LEAST, -1, 0, 201, GREATEST};
        for (int m : men) {
            Due.is("second(" + m + ", 5, 1, 0)", x.second(m, 5, 1, 0), RANGE);
        }
        int[] feet = {LEAST, -1, 0, 1000, GREATEST};
        for (int f : feet) {
            Due.is("second(4, " + f + ", 1, 0)", x.second(4, f, 1, 0), RANGE);
        }
        int[] bits = {LEAST, -1, 4, 5, GREATEST};
        for (int looks : bits) {
            Due.is("second(4, 5, " + looks + ", 1)", x.second(4, 5, looks, 1), RANGE);
        }
        int[] others = {LEAST, -1, 2, GREATEST};
        for (int what : others) {
            Due.is("second(4, 5, 1, " + what + ")", x.second(4, 5, 1, what), RANGE);
        }
    }
}
