import java.math.BigInteger;

/** Term II, and promises 8 to 13: TUNNELS, BOARDS, falls, THE CHANCE, SAND. */
public final class DiggingTest {
    private static final int RANGE = TrouserSand.RANGE;
    private static final int FULL = TrouserSand.FULL;
    private static final int LEAST = Integer.MIN_VALUE;
    private static final int GREATEST = Integer.MAX_VALUE;
    // The tenths of a foot are a foot, and no boards are wanted.
    private static final String PLAIN = "hut a 0 1 40;hut b 0 1 40;board 0;pace 10;";

    public static void main(String[] args) {
        tunnels();
        shiftMen();
        pump();
        noOthers();
        tenths();
        boardsBear();
        bedsKeep();
        usedBoards();
        fallTold();
        fallBelow();
        fallTakes();
        sandComes();
        chanceModulo();
        chanceCut();
        chanceAtFirst();
        chance();
        open();
        shift();
        tunnel();
        boards();
        lies();
        Due.finish();
    }

    private static TrouserSand opened(String text) {
        TrouserSand x = Due.withCamp(text);
        x.open(0);
        return x;
    }

    private static void tunnels() {
        Due.term("II", "TUNNELS, at most 3, numbered from 0");
        TrouserSand x = Due.withCamp(PLAIN);
        Due.is("open(0)", x.open(0), 0);
        Due.is("open(1)", x.open(1), 1);
        Due.is("open(0)", x.open(0), 2);
        Due.is("open(0)", x.open(0), FULL);
        Due.is("open(1)", x.open(1), FULL);
        Due.is("count(1)", x.count(1), 3);
        Due.term("II", "each from a HUT (one HUT may have some)");
        x = Due.withCamp(PLAIN);
        for (int t = 0; t < 3; t++) {
            Due.is("open(1)", x.open(1), t);
            Due.is("tunnel(" + t + ", 0)", x.tunnel(t, 0), 1);
            Due.is("shift(" + t + ", ..)", x.shift(t, t + 1), t + 1);
        }
        Due.is("lies(1)", x.lies(1), 60);
        Due.is("lies(0)", x.lies(0), 0);
        Due.is("tunnel(0, 1)", x.tunnel(0, 1), 1);
    }

    private static void shiftMen() {
        Due.term("II", "A SHIFT of m men (1 .. 99) in one");
        TrouserSand x = opened(PLAIN);
        Due.is("shift(0, 0)", x.shift(0, 0), RANGE);
        Due.is("shift(0, 100)", x.shift(0, 100), RANGE);
        Due.is("shift(0, 1)", x.shift(0, 1), 1);
        Due.is("shift(0, 99)", x.shift(0, 99), 100);
    }

    private static void pump() {
        Due.term("II", "as many are at the pump as its feet over air (cut)");
        TrouserSand x = opened(PLAIN + "air 10;");
        Due.is("shift(0, 9)", x.shift(0, 9), 9);
        Due.is("9 feet: tunnel(0, 5)", x.tunnel(0, 5), 0);
        Due.is("shift(0, 1)", x.shift(0, 1), 10);
        Due.is("10 feet: tunnel(0, 5)", x.tunnel(0, 5), 1);
        Due.is("shift(0, 10)", x.shift(0, 10), 19);
        Due.is("19 feet: tunnel(0, 5)", x.tunnel(0, 5), 1);
        Due.is("shift(0, 2)", x.shift(0, 2), 20);
        Due.is("20 feet: tunnel(0, 5)", x.tunnel(0, 5), 2);
        Due.is("shift(0, 3)", x.shift(0, 3), 21);
        // By the feet that there are ahead of the SHIFT.
        x = opened(PLAIN + "air 10;");
        Due.is("shift(0, 99)", x.shift(0, 99), 99);
        Due.is("99 feet: tunnel(0, 5)", x.tunnel(0, 5), 9);
    }

    private static void noOthers() {
        Due.term("II", "each other one (none, if there are no others) digs pace tenths");
        TrouserSand x = opened(PLAIN + "air 10;");
        x.shift(0, 35);
        Due.is("as many as the pump takes", x.shift(0, 3), 35);
        Due.is("fewer than the pump takes", x.shift(0, 2), 35);
        Due.is("fewer than the pump takes", x.shift(0, 1), 35);
        Due.is("SAND", x.lies(0), 350);
        Due.is("SHIFTS all the same", x.tunnel(0, 3), 4);
        Due.is("one more than the pump takes", x.shift(0, 4), 36);
        x = opened("hut a 0 1 40;board 0;pace 50;air 200;");
        Due.is("pace 50", x.shift(0, 3), 15);
        x = opened("hut a 0 1 40;board 0;pace 7;air 10;");
        x.shift(0, 15);
        Due.is("105 tenths", x.tunnel(0, 1), 10);
        Due.is("none digs", x.shift(0, 1), 10);
        Due.is("what was over stays", x.tunnel(0, 2), 5);
    }

    private static void tenths() {
        Due.term("II", "ten tenths are a foot, what is over stays for the next SHIFT");
        TrouserSand x = opened("hut a 0 1 40;board 0;pace 1;");
        Due.is("9 tenths", x.shift(0, 9), 0);
        Due.is("tunnel(0, 2)", x.tunnel(0, 2), 9);
        Due.is("SAND", x.lies(0), 0);
        Due.is("10 tenths", x.shift(0, 1), 1);
        Due.is("tunnel(0, 2)", x.tunnel(0, 2), 0);
        Due.is("19 tenths", x.shift(0, 19), 2);
        Due.is("tunnel(0, 2)", x.tunnel(0, 2), 9);
        Due.is("9 tenths and 2", x.shift(0, 2), 3);
        Due.is("tunnel(0, 2)", x.tunnel(0, 2), 1);
        // Of each TUNNEL its own.
        x.open(0);
        Due.is("tunnel(1, 2)", x.tunnel(1, 2), 0);
        Due.is("9 tenths in another", x.shift(1, 9), 0);
        Due.is("tunnel(0, 2)", x.tunnel(0, 2), 1);
    }

    private static void boardsBear() {
        Due.term("II", "No more feet are dug than there are BOARDS for (what is more is lost)");
        TrouserSand x = opened("hut a 0 1 5;bed 7 4;board 4;pace 10;");
        Due.is("15 boards: 3 feet", x.shift(0, 3), 3);
        x = opened("hut a 0 1 5;bed 7 4;board 4;pace 10;");
        Due.is("not 4 feet", x.shift(0, 4), 3);
        Due.is("SAND of 3", x.lies(0), 30);
        Due.is("boards()", x.boards(), 3);
        Due.is("not one more for 3 boards", x.shift(0, 1), 3);
        Due.is("boards()", x.boards(), 3);
        Due.is("SAND of 3", x.lies(0), 30);
        Due.is("no foot is owed: tunnel(0, 2)", x.tunnel(0, 2), 0);
        // Just enough for one foot.
        x = opened("hut a 0 1 1;bed 9 0;board 9;pace 10;");
        Due.is("shift(0, 1)", x.shift(0, 1), 1);
        Due.is("boards()", x.boards(), 0);
        x = opened("hut a 0 1 1;bed 8 0;board 9;pace 10;");
        Due.is("8 boards", x.shift(0, 1), 0);
        Due.is("boards()", x.boards(), 8);
        // The tenths over stay, though their feet are lost.
        x = opened("hut a 0 1 1;bed 0 0;board 1;pace 15;");
        Due.is("shift(0, 1)", x.shift(0, 1), 0);
        Due.is("tunnel(0, 2)", x.tunnel(0, 2), 5);
        Due.is("shift(0, 1)", x.shift(0, 1), 0);
        Due.is("tunnel(0, 2)", x.tunnel(0, 2), 0);
        // A foot that takes no board: as many as are dug, with no boards at all.
        x = opened("hut a 0 1 1;bed 0 0;board 0;pace 10;");
        Due.is("shift(0, 99)", x.shift(0, 99), 99);
        Due.is("boards()", x.boards(), 0);
    }

    private static void bedsKeep() {
        Due.term("II", "all MEN times what a bed has more than it must keep (0 at least)");
        Due.is("boards()", Due.withCamp("hut a 0 1 3;hut b 0 1 2;bed 7 4;").boards(), 15);
        Due.is("boards() untold", Due.withCamp("hut a 0 1 3;").boards(), 12);
        Due.is("as many as it keeps", Due.withCamp("hut a 0 1 3;bed 4 4;").boards(), 0);
        Due.is("fewer than it keeps", Due.withCamp("hut a 0 1 3;bed 4 5;").boards(), 0);
        Due.is("fewest", Due.withCamp("hut a 0 1 40;bed 0 20;").boards(), 0);
        Due.is("most", Due.withCamp("hut a 0 1 40;hut b 0 1 40;hut c 0 1 40;hut d 0 1 40;hut e 0 1 40;bed 20 0;").boards(), 4000);
        TrouserSand x = opened("hut a 0 1 3;bed 4 5;board 1;pace 10;");
        Due.is("no board", x.shift(0, 9), 0);
    }

    private static void usedBoards() {
        Due.term("II", "less those that were used; a foot takes board");
        TrouserSand x = opened("hut a 0 1 10;board 3;pace 10;");
        x.open(0);
        Due.is("boards()", x.boards(), 40);
        x.shift(0, 2);
        Due.is("boards()", x.boards(), 34);
        x.shift(1, 5);
        Due.is("boards()", x.boards(), 19);
        Due.is("what is left is left for all", x.shift(0, 9), 8);
        Due.is("boards()", x.boards(), 1);
        Due.is("none for the other", x.shift(1, 9), 5);
    }

    private static void fallTold() {
        Due.term("II", "with a fall told above 0, one number of 100 is drawn by the CHANCE");
        // By seed 0 a 0 is drawn first: below 1, but not below 0.
        TrouserSand x = opened(PLAIN + "fall 1;");
        x.chance(0);
        Due.is("fall 1", x.shift(0, 1), 0);
        x = opened(PLAIN + "fall 0;");
        x.chance(0);
        Due.is("fall 0", x.shift(0, 1), 1);
        x = opened(PLAIN);
        x.chance(0);
        Due.is("fall untold", x.shift(0, 1), 1);
        // Without a fall nothing is drawn: 38 of 100 comes when there is one.
        x = opened(PLAIN + "fall 0;");
        x.shift(0, 1);
        x.shift(0, 1);
        Due.camp(x, PLAIN + "fall 39;");
        x.open(0);
        Due.is("the first number", x.shift(0, 1), 0);
        Due.is("the second number", x.shift(0, 1), 1);
        // One for each SHIFT, whichever TUNNEL, however few feet.
        x = opened("hut a 0 1 40;board 0;pace 1;fall 39;");
        x.open(0);
        x.shift(0, 1);
        Due.is("the second number", x.shift(1, 99), 9);
        x = opened(PLAIN + "fall 39;");
        x.shift(0, 100);
        x.shift(1, 1);
        Due.is("none for a SHIFT that is refused", x.shift(0, 1), 0);
    }

    private static void fallBelow() {
        Due.term("II", "below fall the feet of this SHIFT fall in again");
        // 38 of 100 is drawn first by seed 1.
        TrouserSand x = opened(PLAIN + "fall 38;");
        Due.is("38 isn't below 38", x.shift(0, 2), 2);
        Due.is("tunnel(0, 4)", x.tunnel(0, 4), 0);
        x = opened(PLAIN + "fall 39;");
        Due.is("38 is below 39", x.shift(0, 2), 0);
        Due.is("tunnel(0, 4)", x.tunnel(0, 4), 1);
        Due.is("58 isn't", x.shift(0, 2), 2);
        Due.is("tunnel(0, 4)", x.tunnel(0, 4), 1);
        x.chance(1);
        Due.is("of this SHIFT alone", x.shift(0, 5), 2);
        Due.is("tunnel(0, 4)", x.tunnel(0, 4), 2);
        Due.is("tunnel(0, 3)", x.tunnel(0, 3), 3);
        x = opened(PLAIN + "fall 50;");
        Due.is("38 is below 50", x.shift(0, 2), 0);
        Due.is("58 isn't", x.shift(0, 2), 2);
    }

    private static void fallTakes() {
        Due.term("II", "they aren't the TUNNEL's, but their boards are used, and their SAND comes up all the same");
        TrouserSand x = opened("hut a 0 1 10;board 1;pace 13;fall 39;sand 2;");
        Due.is("shift(0, 2)", x.shift(0, 2), 0);
        Due.is("the TUNNEL's: tunnel(0, 1)", x.tunnel(0, 1), 0);
        Due.is("boards()", x.boards(), 38);
        Due.is("lies(0)", x.lies(0), 4);
        Due.is("what is over stays: tunnel(0, 2)", x.tunnel(0, 2), 6);
        Due.is("keep(0)", x.keep(0), 0);
        Due.is("no fall", x.shift(0, 2), 3);
        Due.is("boards()", x.boards(), 35);
        Due.is("lies(0)", x.lies(0), 10);
        // Nor do they want a pump.
        x = opened("hut a 0 1 10;board 0;pace 10;fall 39;air 10;");
        x.shift(0, 50);
        Due.is("tunnel(0, 5)", x.tunnel(0, 5), 0);
        Due.is("shift(0, 1)", x.shift(0, 1), 1);
        // Feet that fall in are no more than there are BOARDS for.
        x = opened("hut a 0 1 1;bed 3 0;board 2;pace 10;fall 39;");
        x.shift(0, 9);
        Due.is("boards()", x.boards(), 1);
        Due.is("lies(0)", x.lies(0), 10);
    }

    private static void sandComes() {
        Due.term("II", "SAND: each foot dug brings sand half pounds to the HUT");
        TrouserSand x = Due.withCamp("hut a 0 1 40;hut b 0 1 40;board 0;pace 10;sand 99;");
        x.open(1);
        x.shift(0, 99);
        Due.is("lies(1)", x.lies(1), 9801);
        Due.is("lies(0)", x.lies(0), 0);
        x = opened("hut a 0 1 40;board 0;pace 10;sand 1;");
        x.shift(0, 7);
        Due.is("lies(0)", x.lies(0), 7);
        x = opened("hut a 0 1 40;board 0;pace 10;");
        x.shift(0, 7);
        Due.is("sand untold", x.lies(0), 70);
        x.open(0);
        x.shift(1, 3);
        Due.is("of all its TUNNELS", x.lies(0), 100);
    }

    /** The next seed, reckoned without any bound. */
    private static long next(long s) {
        return BigInteger.valueOf(s).multiply(BigInteger.valueOf(1103515245L)).add(BigInteger.valueOf(12345L))
            .mod(BigInteger.valueOf(2147483648L)).longValue();
    }

    private static void chanceModulo() {
        Due.term("II", "s becomes (1103515245 times s and 12345) modulo 2147483648 each time");
        int[] seeds = {0, 1, 2, 65535, 65536, 1073741823, 1073741824, 2147483646, 2147483647};
        for (int seed : seeds) {
            TrouserSand x = opened(PLAIN + "fall 50;");
            x.chance(seed);
            long s = seed;
            int falls = 0;
            for (int i = 0; i < 100; i++) {
                s = next(s);
                falls += s / 65536 % 100 < 50 ? 1 : 0;
                x.shift(0, 1);
                Due.is("seed " + seed + ", SHIFT " + i + ": tunnel(0, 4)", x.tunnel(0, 4), falls);
            }
        }
    }

    private static void chanceCut() {
        Due.term("II", "what is drawn of n is s over 65536 (cut), modulo n");
        int asked = 0;
        for (int seed = 0; asked < 40 && seed < 1000; seed++) {
            int drawn = (int) (next(seed) / 65536 % 100);
            if (drawn >= 1 && drawn < 50) {
                asked++;
                TrouserSand x = opened(PLAIN + "fall " + drawn + ";");
                x.chance(seed);
                Due.is("seed " + seed + ", fall " + drawn, x.shift(0, 1), 1);
                x = opened(PLAIN + "fall " + (drawn + 1) + ";");
                x.chance(seed);
                Due.is("seed " + seed + ", fall " + (drawn + 1), x.shift(0, 1), 0);
            }
        }
        Due.is("seeds that were asked", asked, 40);
    }

    private static void chanceAtFirst() {
        Due.term("II", "s is 1 at first");
        TrouserSand x = opened(PLAIN + "fall 50;");
        TrouserSand y = opened(PLAIN + "fall 50;");
        y.chance(1);
        for (int i = 0; i < 50; i++) {
            Due.is("SHIFT " + i, x.shift(0, 1), y.shift(0, 1));
        }
    }

    private static void chance() {
        Due.promise(8, "THE CHANCE is a seed (0 .. 2147483647): 1");
        TrouserSand x = opened(PLAIN + "fall 30;");
        Due.is("chance(0)", x.chance(0), 1);
        Due.is("0 of 100", x.shift(0, 1), 0);
        Due.is("chance(2147483647)", x.chance(GREATEST), 1);
        Due.is("29 of 100", x.shift(0, 1), 0);
        Due.is("chance(1)", x.chance(1), 1);
        Due.is("38 of 100", x.shift(0, 1), 1);
        Due.is("without a CAMP", new TrouserSand().chance(0), 1);
        Due.promise(8, "RANGE");
        x = opened(PLAIN + "fall 39;");
        Due.is("chance(-1)", x.chance(-1), RANGE);
        Due.is("chance(least)", x.chance(LEAST), RANGE);
        Due.is("THE CHANCE stays: 38", x.shift(0, 1), 0);
        Due.is("chance(-1)", x.chance(-1), RANGE);
        Due.is("THE CHANCE stays: 58", x.shift(0, 1), 1);
    }

    private static void open() {
        Due.promise(9, "A TUNNEL is begun from a HUT: its number");
        TrouserSand x = Due.withCamp("hut a 0 1 1;hut b 0 1 1;hut c 0 1 1;hut d 0 1 1;hut e 0 1 1;");
        Due.is("open(4)", x.open(4), 0);
        Due.is("tunnel(0, 0)", x.tunnel(0, 0), 4);
        for (int what = 1; what < 6; what++) {
            Due.is("tunnel(0, " + what + ")", x.tunnel(0, what), 0);
        }
        Due.promise(9, "RANGE");
        int[] none = {-1, 5, LEAST, GREATEST};
        for (int hut : none) {
            Due.is("open(" + hut + ")", x.open(hut), RANGE);
        }
        Due.is("count(1)", x.count(1), 1);
        Due.is("open(2) of two HUTS", Due.withCamp(PLAIN).open(2), RANGE);
        Due.promise(9, "FULL");
        x.open(0);
        x.open(0);
        Due.is("open(0)", x.open(0), FULL);
        Due.is("count(1)", x.count(1), 3);
        Due.is("RANGE ahead of FULL: open(5)", x.open(5), RANGE);
        Due.is("RANGE ahead of FULL: open(-1)", x.open(-1), RANGE);
    }

    private static void shift() {
        Due.promise(10, "A SHIFT: feet that the TUNNEL has then");
        TrouserSand x = Due.withCamp("hut a 0 1 40;board 0;pace 5;");
        x.open(0);
        x.open(0);
        Due.is("shift(0, 99)", x.shift(0, 99), 49);
        Due.is("shift(0, 1)", x.shift(0, 1), 50);
        Due.is("shift(1, 2)", x.shift(1, 2), 1);
        Due.is("shift(0, 2)", x.shift(0, 2), 51);
        Due.promise(10, "RANGE");
        x = Due.withCamp("hut a 0 1 40;board 0;pace 5;fall 39;");
        Due.is("no TUNNEL: shift(0, 1)", x.shift(0, 1), RANGE);
        x.open(0);
        int[] none = {-1, 1, 3, LEAST, GREATEST};
        for (int t : none) {
            Due.is("shift(" + t + ", 1)", x.shift(t, 1), RANGE);
        }
        int[] men = {-1, 0, 100, LEAST, GREATEST};
        for (int m : men) {
            Due.is("shift(0, " + m + ")", x.shift(0, m), RANGE);
        }
        for (int what = 0; what < 6; what++) {
            Due.is("tunnel(0, " + what + ") stays", x.tunnel(0, what), 0);
        }
        Due.is("lies(0) stays", x.lies(0), 0);
        Due.is("boards() stay", x.boards(), 160);
        Due.is("THE CHANCE stays: 38", x.shift(0, 2), 0);
    }

    private static void tunnel() {
        Due.promise(11, "Of a TUNNEL, what 0: its HUT, 1: feet, 2: tenths over, 3: SHIFTS, 4: falls");
        TrouserSand x = Due.withCamp("hut a 0 1 40;hut b 0 1 40;board 0;pace 7;fall 39;air 10;");
        x.open(0);
        x.open(1);
        x.shift(1, 2);
        x.shift(1, 50);
        int[] due = {1, 35, 4, 2, 1, 3};
        for (int what = 0; what < due.length; what++) {
            Due.is("tunnel(1, " + what + ")", x.tunnel(1, what), due[what]);
            Due.is("tunnel(0, " + what + ")", x.tunnel(0, what), 0);
        }
        Due.promise(11, "5: how many men its pump takes now");
        Due.is("35 feet", x.tunnel(1, 5), 3);
        x = opened(PLAIN);
        x.shift(0, 59);
        Due.is("59 feet, air 60", x.tunnel(0, 5), 0);
        x.shift(0, 1);
        Due.is("60 feet, air 60", x.tunnel(0, 5), 1);
        Due.promise(11, "RANGE");
        x = Due.withCamp(PLAIN);
        Due.is("no TUNNEL: tunnel(0, 0)", x.tunnel(0, 0), RANGE);
        x.open(0);
        x.open(0);
        int[] none = {-1, 2, 3, LEAST, GREATEST};
        for (int t : none) {
            Due.is("tunnel(" + t + ", 0)", x.tunnel(t, 0), RANGE);
        }
        int[] others = {-1, 6, LEAST, GREATEST};
        for (int what : others) {
            Due.is("tunnel(1, " + what + ")", x.tunnel(1, what), RANGE);
        }
    }

    private static void boards() {
        Due.promise(12, "BOARDS that are left.");
        TrouserSand x = opened("hut a 0 1 3;board 5;pace 10;");
        Due.is("boards()", x.boards(), 12);
        x.shift(0, 1);
        Due.is("boards()", x.boards(), 7);
        x.shift(0, 9);
        Due.is("boards()", x.boards(), 2);
        x.shift(0, 9);
        Due.is("boards()", x.boards(), 2);
        Due.is("without a HUT", Due.withCamp("bed 20 0;").boards(), 0);
    }

    private static void lies() {
        Due.promise(13, "SAND that lies in a HUT");
        TrouserSand x = opened("hut a 0 1 40;hut b 0 1 40;garden g 0 1 9999;pace 10;sand 3;board 0;");
        Due.is("lies(0)", x.lies(0), 0);
        x.shift(0, 4);
        Due.is("lies(0)", x.lies(0), 12);
        x.carry(0, 0, 5);
        Due.is("lies(0)", x.lies(0), 7);
        Due.is("lies(1)", x.lies(1), 0);
        Due.promise(13, "RANGE");
        int[] none = {-1, 2, 5, LEAST, GREATEST};
        for (int hut : none) {
            Due.is("lies(" + hut + ")", x.lies(hut), RANGE);
        }
    }
}
