/** Promises 4 to 7: camp, fault, told, run. */
public final class CampCallsTest {
    private static final int NONE = TrouserSand.NONE;
    private static final int RANGE = TrouserSand.RANGE;
    private static final int STATE = TrouserSand.STATE;
    private static final int LEAST = Integer.MIN_VALUE;
    private static final int GREATEST = Integer.MAX_VALUE;
    private static final String DIG = "hut a 10 20 10;hut b 20 20 10;garden g 10 50 900;look l 50;count a 5;count b 20;pace 49;";

    public static void main(String[] args) {
        campClauses();
        campFaultStays();
        campClearsDigging();
        campClearsTheRest();
        campLeaves();
        fault();
        told();
        toldNone();
        run();
        Due.finish();
    }

    private static void campClauses() {
        Due.promise(4, "THE TAPE is a CAMP: how many clauses");
        TrouserSand x = new TrouserSand();
        Due.is("camp() of an empty TAPE", x.camp(), 0);
        Due.is("camp() of a blank", Due.camp(x, " "), 0);
        Due.is("camp() of one", Due.camp(x, "wide 10;"), 1);
        Due.is("camp() of three", Due.camp(x, "wide 10;bed 1 1;hut a 1 1 1;"), 3);
        Due.is("told(0)", x.told(0), 1);
        Due.is("camp() of an empty TAPE", Due.camp(x, ""), 0);
        Due.is("told(0)", x.told(0), 0);
        Due.is("told(3)", x.told(3), 200);
        String fullest = "hut a 1 1 1;hut b 2 2 2;hut c 3 3 3;hut d 4 4 4;hut e 5 5 5;garden a 7 8 9;garden b 1 1 1;garden c 0 0 0;"
            + "garden d 1 2 3;look a 0;look b 99;look c 5;look d 6;count a 0;count b 1;count c 2;count d 3;count e 4;run a b 1;"
            + "run a c 1;run a d 1;run a e 1;run b c 1;run b d 1;run b e 1;run c d 1;run c e 1;run d e 1;bed 1 1;wide 10;wood 1;"
            + "sand 1;walk 1;reach 1;board 1;air 10;pace 1;fall 1;";
        Due.is("camp() with all that can be told", Due.camp(x, fullest), 38);
    }

    /** A CAMP with a TUNNEL of 19 feet, SAND, GONE, STRINGS, a NIGHT, a LIST and both SLOTS. */
    private static TrouserSand lived() {
        TrouserSand x = Due.withCamp(DIG);
        x.open(0);
        x.shift(0, 4);
        x.carry(0, 0, 5);
        x.keep(0);
        x.keep(1);
        x.gone(1, 2);
        x.drift(4);
        x.string(9, 5, 2, 1);
        x.string(9, 5, 2, 1);
        x.right(9, 0, 6);
        x.join(5, 0);
        x.join(6, 1);
        x.round(20, 30);
        x.best(50);
        x.list(1, 3, 0, 0, 0, 0);
        return x;
    }

    private static void campFaultStays() {
        Due.promise(4, "NONE with a FAULT (it stays)");
        TrouserSand x = lived();
        Due.is("camp()", Due.camp(x, "hut z 1 1 1;wide 77;hut a 1;"), NONE);
        Due.is("fault(0)", x.fault(0), 1);
        Due.is("count(0)", x.count(0), 7);
        Due.is("told(0)", x.told(0), 2);
        Due.is("told(3)", x.told(3), 200);
        Due.is("told(10)", x.told(10), 49);
        Due.is("told(20)", x.told(20), 10);
        Due.is("told(51)", x.told(51), 20);
        Due.is("told(90)", x.told(90), 50);
        // And so does what was done in it.
        Due.is("count(1)", x.count(1), 1);
        Due.is("tunnel(0, 1)", x.tunnel(0, 1), 19);
        Due.is("tunnel(0, 2)", x.tunnel(0, 2), 6);
        Due.is("lies(0)", x.lies(0), 185);
        Due.is("had(0)", x.had(0), 5);
        Due.is("boards()", x.boards(), 42);
        Due.is("count(6)", x.count(6), 2);
        Due.is("count(2)", x.count(2), 2);
        Due.is("count(3)", x.count(3), 1);
        Due.is("where(9, 2)", x.where(9, 2), 24);
        Due.is("drift(4)", x.drift(4), 4);
        Due.is("string at an earlier STEP", x.string(8, 1, 0, 0), RANGE);
        Due.is("goes(0, 1)", x.goes(0, 1), 5);
        Due.holds("listed(2)", x.listed(2) >= 0);
        Due.is("take(0)", x.take(0), 19);
        Due.is("take(1)", x.take(1), 19);
        Due.is("count(4)", x.count(4), 2);
        Due.is("count(5)", x.count(5), 1);
    }

    private static TrouserSand livedAndTold() {
        TrouserSand x = lived();
        Due.is("camp()", Due.camp(x, DIG), 7);
        return x;
    }

    private static void campClearsDigging() {
        Due.promise(4, "TUNNELS, SAND, used boards, what GARDENS had");
        TrouserSand x = livedAndTold();
        Due.is("TUNNELS: count(1)", x.count(1), 0);
        Due.is("TUNNELS: tunnel(0, 0)", x.tunnel(0, 0), RANGE);
        Due.is("TUNNELS: shift(0, 1)", x.shift(0, 1), RANGE);
        Due.is("TUNNELS: keep(0)", x.keep(0), 0);
        Due.is("SAND: lies(0)", x.lies(0), 0);
        Due.is("SAND: until()", x.until(), 0);
        Due.is("used boards: boards()", x.boards(), 80);
        Due.is("what GARDENS had: had(0)", x.had(0), 0);
        tunnelsFromTheBeginning(x);
        // And so behind TUNNELS with feet, tenths over and falls.
        x = Due.withCamp("hut a 0 1 40;hut b 0 1 40;pace 13;fall 39;air 10;board 0;");
        for (int t = 0; t < 3; t++) {
            x.chance(1);
            x.open(0);
            x.shift(t, 2);
            x.shift(t, 10);
            Due.is("falls", x.tunnel(t, 4), 1);
        }
        Due.camp(x, DIG);
        tunnelsFromTheBeginning(x);
        Due.promise(4, "SLOTS are empty");
        x = livedAndTold();
        Due.is("take(0)", x.take(0), STATE);
        Due.is("take(1)", x.take(1), STATE);
        Due.is("keep(1)", x.keep(1), 0);
        Due.is("take(0)", x.take(0), STATE);
        Due.is("take(1)", x.take(1), 0);
    }

    private static void tunnelsFromTheBeginning(TrouserSand x) {
        for (int t = 0; t < 3; t++) {
            Due.is("a TUNNEL from the beginning", x.open(1), t);
            Due.is("its HUT", x.tunnel(t, 0), 1);
            for (int what = 1; what < 6; what++) {
                Due.is("tunnel(" + t + ", " + what + ")", x.tunnel(t, what), 0);
            }
        }
    }

    private static void campClearsTheRest() {
        Due.promise(4, "GONE, STRINGS (drift and the latest STEP 0) are none then");
        TrouserSand x = livedAndTold();
        Due.is("GONE: count(6)", x.count(6), 0);
        Due.is("GONE: runners()", x.runners(), 0);
        Due.is("GONE: gone(1, 0)", x.gone(1, 0), 0);
        Due.is("STRINGS: count(2)", x.count(2), 0);
        Due.is("puttings RIGHT: count(3)", x.count(3), 0);
        Due.is("STRINGS: where(999, 1)", x.where(999, 1), 0);
        Due.is("STRINGS: where(999, 2)", x.where(999, 2), 0);
        Due.is("drift(1)", x.drift(1), 0);
        Due.is("the latest STEP: string(0, 7, 0, 0)", x.string(0, 7, 0, 0), 0);
        Due.is("no feet put RIGHT: where(999, 0)", x.where(999, 0), 70);
        Due.is("right(0, 0, 5)", x.right(0, 0, 5), 1);
        x = livedAndTold();
        Due.is("drift: string", x.string(0, 7, 0, 0), 0);
        Due.is("drift: string", x.string(0, 7, 0, 0), 1);
        Due.is("drift: where(0, 2)", x.where(0, 2), 0);
        Due.promise(4, "what list(), best() told is gone");
        x = livedAndTold();
        Due.is("listed(0)", x.listed(0), NONE);
        Due.is("goes(0, 0)", x.goes(0, 0), NONE);
        Due.is("goes(0, 1)", x.goes(0, 1), NONE);
        // Of an empty text too.
        x = lived();
        Due.is("camp() of an empty TAPE", Due.camp(x, ""), 0);
        Due.is("listed(0)", x.listed(0), NONE);
        Due.is("goes(0, 0)", x.goes(0, 0), NONE);
        Due.is("take(0)", x.take(0), STATE);
        Due.is("count(1)", x.count(1), 0);
        Due.is("count(2)", x.count(2), 0);
        Due.is("count(6)", x.count(6), 0);
    }

    private static void campLeaves() {
        Due.promise(4, "(THE NIGHT, ROUNDS, THE CHANCE stay.)");
        TrouserSand x = livedAndTold();
        Due.is("THE NIGHT: count(4)", x.count(4), 2);
        Due.is("ROUNDS: count(5)", x.count(5), 1);
        Due.is("THE NIGHT: order() of 01", Due.order(x, "01"), 14);
        Due.is("ROUNDS: round(29, 31)", x.round(29, 31), RANGE);
        Due.is("THE NIGHT: best(50)", x.best(50), 2);
        // 38 of 100 is drawn first by seed 1, then 58: with 39 of 100 a fall, then none.
        String text = "hut a 10 20 40;board 0;pace 10;fall 39;";
        x = Due.withCamp(text);
        x.open(0);
        Due.is("THE CHANCE: a fall", x.shift(0, 1), 0);
        Due.camp(x, text);
        x.open(0);
        Due.is("THE CHANCE: none", x.shift(0, 1), 1);
        x = Due.withCamp(text);
        x.chance(1);
        x.open(0);
        x.shift(0, 1);
        Due.is("a faulty camp()", Due.camp(x, "!"), NONE);
        Due.is("THE CHANCE: none", x.shift(0, 1), 1);
    }

    private static void fault() {
        Due.promise(5, "Of the latest camp(), what 0: its FAULT's KIND");
        TrouserSand x = new TrouserSand();
        String[] texts = {"!", "wide 9;", "wood 1;wood 1;", "look a 1;look b 1;look c 1;look d 1;look e 1;", "count a 1;"};
        int[] places = {0, 5, 7, 36, 6};
        for (int i = 0; i < texts.length; i++) {
            Due.camp(x, texts[i]);
            Due.is("fault(0) of '" + texts[i] + "'", x.fault(0), i + 1);
            Due.is("fault(1) of '" + texts[i] + "'", x.fault(1), places[i]);
        }
        Due.is("fault(0) again", x.fault(0), 5);
        Due.is("order() is no camp()", Due.order(x, "!"), NONE);
        Due.is("fault(0)", x.fault(0), 5);
        Due.feed(x, "wide");
        Due.is("a TAPE that isn't read yet", x.fault(0), 5);
        Due.promise(5, "0 without (and ahead of any)");
        x = new TrouserSand();
        Due.is("fault(0) ahead of any", x.fault(0), 0);
        Due.camp(x, "wide 10;");
        Due.is("fault(0) without", x.fault(0), 0);
        Due.camp(x, "wide 9;");
        Due.camp(x, "wide 10;");
        Due.is("fault(0) without, behind one", x.fault(0), 0);
        Due.promise(5, "1: its PLACE (NONE)");
        x = new TrouserSand();
        Due.is("fault(1) ahead of any", x.fault(1), NONE);
        Due.camp(x, "wide 10;");
        Due.is("fault(1) without", x.fault(1), NONE);
        Due.camp(x, "!");
        Due.is("fault(1)", x.fault(1), 0);
        Due.camp(x, "wide 10;");
        Due.is("fault(1) without, behind one", x.fault(1), NONE);
        Due.promise(5, "NONE for another what.");
        Due.camp(x, "wide 9;");
        int[] others = {-1, 2, 3, LEAST, GREATEST};
        for (int what : others) {
            Due.is("fault(" + what + ")", x.fault(what), NONE);
        }
        for (int what : others) {
            Due.is("fault(" + what + ") ahead of any", new TrouserSand().fault(what), NONE);
        }
    }

    private static final String FULLEST = "hut a 10 20 30;hut b 11 21 31;hut c 12 22 32;hut d 13 23 33;hut e 14 24 34;garden a 40 50 60;"
        + "garden b 41 51 61;garden c 42 52 62;garden d 43 53 63;look a 70;look b 71;look c 72;look d 73;count e 84;count a 80;"
        + "bed 16 15;wide 300;wood 299;sand 32;walk 33;reach 304;board 5;air 36;pace 37;fall 38;";

    private static void told() {
        Due.promise(6, "What 0: HUTS, 1: GARDENS, 2: LOOKS, 3: wide, 4: wood");
        TrouserSand x = Due.withCamp(FULLEST);
        int[] general = {5, 4, 4, 300, 299, 32, 33, 304, 5, 36, 37, 38, 16, 15};
        for (int what = 0; what < general.length; what++) {
            Due.is("told(" + what + ")", x.told(what), general[what]);
        }
        for (int h = 0; h < 5; h++) {
            Due.is("x of HUT " + h, x.told(20 + h), 10 + h);
            Due.is("how far back HUT " + h, x.told(30 + h), 20 + h);
            Due.is("MEN of HUT " + h, x.told(40 + h), 30 + h);
        }
        for (int i = 0; i < 4; i++) {
            Due.is("x of GARDEN " + i, x.told(60 + i), 40 + i);
            Due.is("ROOM a day " + i, x.told(70 + i), 50 + i);
            Due.is("ROOM in all " + i, x.told(80 + i), 60 + i);
            Due.is("number of LOOK " + i, x.told(90 + i), 70 + i);
        }
        Due.promise(6, "the minute of its count (NONE)");
        int[] minutes = {80, NONE, NONE, NONE, 84};
        for (int h = 0; h < 5; h++) {
            Due.is("told(" + (50 + h) + ")", x.told(50 + h), minutes[h]);
        }
    }

    private static void toldNone() {
        Due.promise(6, "NONE for others.");
        TrouserSand x = Due.withCamp(FULLEST);
        int[] others = {LEAST, -100, -1, 14, 15, 19, 25, 29, 35, 39, 45, 49, 55, 59, 64, 69, 74, 79, 84, 89, 94, 99, 100, 120, 190,
            GREATEST};
        for (int what : others) {
            Due.is("told(" + what + ")", x.told(what), NONE);
        }
        // One HUT, GARDEN, LOOK less: its numbers are told no more.
        x = Due.withCamp("hut a 1 1 1;count a 1;garden a 1 1 1;look a 1;");
        for (int tens = 20; tens <= 90; tens += 10) {
            Due.is("told(" + tens + ")", x.told(tens), 1);
            Due.is("told(" + (tens + 1) + ")", x.told(tens + 1), NONE);
        }
        // Nor is anything told any more that two earlier CAMPS told.
        x = Due.withCamp(FULLEST);
        Due.camp(x, FULLEST);
        Due.camp(x, "");
        Due.is("told(0) of an empty CAMP", x.told(0), 0);
        Due.is("told(1) of an empty CAMP", x.told(1), 0);
        Due.is("told(2) of an empty CAMP", x.told(2), 0);
        for (int what = 14; what < 100; what++) {
            Due.is("told(" + what + ") of an empty CAMP", x.told(what), NONE);
        }
        Due.camp(x, "wide 9;");
        Due.is("told(90) of an empty CAMP", x.told(90), NONE);
    }

    private static void run() {
        Due.promise(7, "Minutes of the run between two HUTS (0 to itself)");
        TrouserSand x = Due.withCamp("hut a 1 1 1;hut b 1 1 1;hut c 1 1 1;hut d 1 1 1;hut e 1 1 1;run b a 60;run c e 0;");
        Due.is("run(0, 1)", x.run(0, 1), 60);
        Due.is("run(1, 0)", x.run(1, 0), 60);
        Due.is("run(2, 4)", x.run(2, 4), 0);
        Due.is("run(4, 2)", x.run(4, 2), 0);
        Due.is("run(3, 4)", x.run(3, 4), 5);
        for (int h = 0; h < 5; h++) {
            Due.is("run(" + h + ", " + h + ")", x.run(h, h), 0);
        }
        Due.promise(7, "RANGE");
        int[] none = {-1, 5, 6, LEAST, GREATEST};
        for (int h : none) {
            Due.is("run(" + h + ", 0)", x.run(h, 0), RANGE);
            Due.is("run(4, " + h + ")", x.run(4, h), RANGE);
            Due.is("run(" + h + ", " + h + ")", x.run(h, h), RANGE);
        }
        Due.is("run(2, 1) of two HUTS", Due.withCamp("hut a 1 1 1;hut b 1 1 1;").run(2, 1), RANGE);
    }
}
