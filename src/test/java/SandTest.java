/** Promises 14 to 19, and what Term II says of sand that is WALKED OUT. */
public final class SandTest {
    private static final int NONE = TrouserSand.NONE;
    private static final int RANGE = TrouserSand.RANGE;
    private static final int STATE = TrouserSand.STATE;
    private static final int LEAST = Integer.MIN_VALUE;
    private static final int GREATEST = Integer.MAX_VALUE;

    public static void main(String[] args) {
        reach();
        mostOfAHut();
        mostOfAGarden();
        mostByAll();
        carry();
        carryRange();
        carryState();
        had();
        most();
        until();
        keep();
        takeAll();
        take();
        callsMixed();
        Due.finish();
    }

    /** HUT 0 has this SAND, 99 at most: one half pound of each foot of its TUNNEL. */
    private static TrouserSand withSand(String text, int sand) {
        TrouserSand x = Due.withCamp(text + "pace 10;board 0;sand 1;air 200;");
        x.open(0);
        if (sand > 0) {
            x.shift(0, sand);
        }
        return x;
    }

    private static void reach() {
        Due.term("II", "so near the HUT's that both and how far the HUT is back are reach at most");
        String text = "hut a 100 50 10;garden g 150 9 60;garden h 151 9 60;garden i 50 9 60;garden j 49 9 60;reach 100;";
        TrouserSand x = withSand(text, 90);
        Due.is("just in reach", x.carry(0, 0, 1), 89);
        Due.is("one foot beyond", x.carry(0, 1, 1), STATE);
        Due.is("just in reach, the other way", x.carry(0, 2, 1), 88);
        Due.is("one foot beyond, the other way", x.carry(0, 3, 1), STATE);
        Due.is("most(99)", x.most(99), 88);
        x = withSand("hut a 0 300 40;garden g 400 9 60;reach 700;", 9);
        Due.is("reach 700", x.carry(0, 0, 9), 0);
        x = withSand("hut a 0 300 40;garden g 400 9 60;reach 699;", 9);
        Due.is("reach 699", x.carry(0, 0, 9), STATE);
        Due.is("most(99)", x.most(99), 0);
        Due.is("until()", x.until(), NONE);
        x = withSand("hut a 7 1 40;garden g 7 9 60;reach 0;", 9);
        Due.is("reach 0", x.carry(0, 0, 1), STATE);
        x = withSand("hut a 7 1 40;garden g 7 9 60;reach 1;", 9);
        Due.is("reach 1", x.carry(0, 0, 1), 8);
    }

    private static void mostOfAHut() {
        Due.term("II", "of a HUT no more than its SAND, nor than its MEN times walk times d");
        TrouserSand x = withSand("hut a 0 1 2;garden g 0 999 9999;walk 3;", 20);
        Due.is("6 a day: most(1)", x.most(1), 6);
        Due.is("most(3)", x.most(3), 18);
        Due.is("its SAND: most(4)", x.most(4), 20);
        Due.is("most(99)", x.most(99), 20);
        x = withSand("hut a 0 1 40;garden g 0 999 9999;walk 40;", 99);
        Due.is("its SAND: most(1)", x.most(1), 99);
        x = withSand("hut a 0 1 1;garden g 0 999 9999;walk 1;", 99);
        Due.is("most(98)", x.most(98), 98);
        Due.is("most(99)", x.most(99), 99);
    }

    private static void mostOfAGarden() {
        Due.term("II", "to a GARDEN no more than its ROOM a day times d, nor than is left of its ROOM in all");
        TrouserSand x = withSand("hut a 0 1 40;garden g 0 7 30;walk 40;", 99);
        Due.is("7 a day: most(1)", x.most(1), 7);
        Due.is("most(4)", x.most(4), 28);
        Due.is("in all: most(5)", x.most(5), 30);
        Due.is("most(99)", x.most(99), 30);
        x.carry(0, 0, 10);
        Due.is("what is left: most(2)", x.most(2), 14);
        Due.is("what is left: most(3)", x.most(3), 20);
        x.carry(0, 0, 20);
        Due.is("none left: most(99)", x.most(99), 0);
        Due.is("no ROOM a day", withSand("hut a 0 1 40;garden g 0 0 9999;", 9).most(99), 0);
        Due.is("no ROOM in all", withSand("hut a 0 1 40;garden g 0 999 0;", 9).most(99), 0);
        Due.is("no GARDEN", withSand("hut a 0 1 40;", 9).most(99), 0);
    }

    private static void mostByAll() {
        Due.term("II", "the most half pounds that can be walked out by all");
        // a reaches g alone, b both: b must leave g to a.
        TrouserSand x = Due.withCamp("hut a 0 10 9;hut b 50 10 9;garden g 40 9 9;garden h 90 9 9;reach 60;pace 10;board 0;sand 1;");
        x.open(0);
        x.open(1);
        x.shift(0, 9);
        x.shift(1, 9);
        Due.is("most(1)", x.most(1), 18);
        Due.is("until()", x.until(), 1);
        // The same with the GARDENS told the other way round.
        x = Due.withCamp("hut b 50 10 9;hut a 0 10 9;garden h 90 9 9;garden g 40 9 9;reach 60;pace 10;board 0;sand 1;");
        x.open(0);
        x.open(1);
        x.shift(0, 9);
        x.shift(1, 9);
        Due.is("most(1)", x.most(1), 18);
        // Five HUTS that all reach, three with SAND: room for all of it, and ROOM that holds back the first one alone.
        String five = "hut a 0 1 9;hut b 100 1 9;hut c 200 1 9;hut d 300 1 9;hut e 300 1 9;pace 10;board 0;sand 1;";
        for (int room = 5; room <= 9; room += 4) {
            x = Due.withCamp(five + "garden g 0 " + room + " 99;garden h 100 99 99;garden i 200 99 99;garden j 300 99 99;reach 1;");
            for (int t = 0; t < 3; t++) {
                x.open(t);
                x.shift(t, 7 + t);
            }
            Due.is("most(1)", x.most(1), Math.min(7, room) + 8 + 9);
            Due.is("until()", x.until(), room < 7 ? 2 : 1);
        }
        x = Due.withCamp(five + "garden g 200 99 99;garden h 200 99 99;garden i 200 99 99;garden j 200 99 99;reach 700;");
        for (int t = 0; t < 3; t++) {
            x.open(4 - t);
            x.shift(t, 9);
        }
        Due.is("most(1)", x.most(1), 27);
        Due.is("until()", x.until(), 1);
        // Both reach g alone.
        x = Due.withCamp("hut a 0 10 9;hut b 50 10 9;garden g 25 9 99;reach 60;pace 10;board 0;sand 1;");
        x.open(0);
        x.open(1);
        x.shift(0, 9);
        x.shift(1, 9);
        Due.is("most(1)", x.most(1), 9);
        Due.is("until()", x.until(), 2);
    }

    private static void carry() {
        Due.promise(14, "So much (1 .. 9999) is WALKED OUT from a HUT to a GARDEN");
        TrouserSand x = Due.withCamp("hut a 0 1 40;garden g 0 1 9999;pace 50;board 0;sand 99;");
        x.open(0);
        x.shift(0, 99);
        Due.is("carry(0, 0, 0)", x.carry(0, 0, 0), RANGE);
        Due.is("carry(0, 0, 10000)", x.carry(0, 0, 10000), RANGE);
        Due.is("carry(0, 0, 9999)", x.carry(0, 0, 9999), 495 * 99 - 9999);
        Due.is("had(0)", x.had(0), 9999);
        x = withSand("hut a 0 1 1;garden g 0 0 9;", 9);
        Due.is("carry(0, 0, 1)", x.carry(0, 0, 1), 8);
        Due.promise(14, "whatever a day bears");
        x = withSand("hut a 0 1 1;garden g 0 0 60;walk 1;", 60);
        Due.is("carry(0, 0, 60)", x.carry(0, 0, 60), 0);
        Due.promise(14, "what lies in the HUT still");
        x = withSand("hut a 0 1 1;hut b 0 1 1;garden g 0 1 60;garden h 0 1 60;", 50);
        Due.is("carry(0, 1, 20)", x.carry(0, 1, 20), 30);
        Due.is("lies(0)", x.lies(0), 30);
        Due.is("had(1)", x.had(1), 20);
        Due.is("had(0)", x.had(0), 0);
        Due.is("carry(0, 0, 29)", x.carry(0, 0, 29), 1);
        Due.is("carry(0, 1, 1)", x.carry(0, 1, 1), 0);
        Due.is("had(1)", x.had(1), 21);
    }

    private static void carryRange() {
        Due.promise(14, "RANGE");
        TrouserSand x = withSand("hut a 0 1 1;hut b 0 1 1;garden g 0 1 60;", 50);
        int[] noHuts = {-1, 2, 5, LEAST, GREATEST};
        for (int hut : noHuts) {
            Due.is("carry(" + hut + ", 0, 1)", x.carry(hut, 0, 1), RANGE);
        }
        int[] noGardens = {-1, 1, 4, LEAST, GREATEST};
        for (int garden : noGardens) {
            Due.is("carry(0, " + garden + ", 1)", x.carry(0, garden, 1), RANGE);
        }
        int[] numbers = {LEAST, -1, 0, 10000, GREATEST};
        for (int n : numbers) {
            Due.is("carry(0, 0, " + n + ")", x.carry(0, 0, n), RANGE);
            // Of what would be STATE too: nothing lies in HUT 1.
            Due.is("carry(1, 0, " + n + ")", x.carry(1, 0, n), RANGE);
        }
        Due.is("lies(0) stays", x.lies(0), 50);
        Due.is("had(0) stays", x.had(0), 0);
    }

    private static void carryState() {
        Due.promise(14, "STATE: it is beyond reach");
        TrouserSand x = withSand("hut a 0 100 1;garden g 101 9 60;", 50);
        Due.is("carry(0, 0, 1)", x.carry(0, 0, 1), STATE);
        Due.is("lies(0) stays", x.lies(0), 50);
        Due.is("had(0) stays", x.had(0), 0);
        Due.promise(14, "or there isn't so much in the HUT");
        x = withSand("hut a 0 1 1;hut b 0 1 1;garden g 0 9 60;", 50);
        Due.is("carry(0, 0, 51)", x.carry(0, 0, 51), STATE);
        Due.is("carry(1, 0, 1)", x.carry(1, 0, 1), STATE);
        Due.is("lies(0) stays", x.lies(0), 50);
        Due.is("had(0) stays", x.had(0), 0);
        Due.is("carry(0, 0, 50)", x.carry(0, 0, 50), 0);
        Due.is("carry(0, 0, 1)", x.carry(0, 0, 1), STATE);
        Due.promise(14, "or no ROOM for it");
        x = withSand("hut a 0 1 1;garden g 0 9 30;garden h 0 9 0;", 50);
        Due.is("carry(0, 0, 31)", x.carry(0, 0, 31), STATE);
        Due.is("carry(0, 1, 1)", x.carry(0, 1, 1), STATE);
        Due.is("lies(0) stays", x.lies(0), 50);
        Due.is("had(0) stays", x.had(0), 0);
        Due.is("carry(0, 0, 30)", x.carry(0, 0, 30), 20);
        Due.is("carry(0, 0, 1)", x.carry(0, 0, 1), STATE);
        Due.is("had(0)", x.had(0), 30);
    }

    private static void had() {
        Due.promise(15, "What a GARDEN had");
        TrouserSand x = withSand("hut a 0 1 1;garden g 0 9 30;garden h 0 9 30;", 50);
        Due.is("had(0)", x.had(0), 0);
        x.carry(0, 1, 7);
        x.carry(0, 1, 8);
        Due.is("had(1)", x.had(1), 15);
        Due.is("had(0)", x.had(0), 0);
        Due.promise(15, "RANGE");
        int[] none = {-1, 2, 4, LEAST, GREATEST};
        for (int garden : none) {
            Due.is("had(" + garden + ")", x.had(garden), RANGE);
        }
    }

    private static void most() {
        Due.promise(16, "MOST in d days (1 .. 99)");
        TrouserSand x = Due.withCamp("hut a 100 50 2;hut b 200 50 1;garden g 100 5 60;garden h 200 9 20;reach 100;sand 10;pace 10;"
            + "walk 4;board 0;");
        x.open(0);
        x.open(1);
        x.shift(0, 2);
        x.shift(1, 1);
        // a: 8 a day of 20 to g alone, which takes 5; b: 4 a day of 10 to h alone.
        int[] due = {9, 18, 25, 30, 30};
        for (int d = 1; d <= due.length; d++) {
            Due.is("most(" + d + ")", x.most(d), due[d - 1]);
        }
        Due.is("most(99)", x.most(99), 30);
        Due.is("nothing is walked out: lies(0)", x.lies(0), 20);
        Due.is("nothing is walked out: had(0)", x.had(0), 0);
        Due.promise(16, "RANGE");
        int[] none = {-1, 0, 100, LEAST, GREATEST};
        for (int d : none) {
            Due.is("most(" + d + ")", x.most(d), RANGE);
            Due.is("most(" + d + ") without a CAMP", new TrouserSand().most(d), RANGE);
        }
    }

    private static void until() {
        Due.promise(17, "The fewest days in which all SAND that lies can be WALKED OUT");
        TrouserSand x = withSand("hut a 0 1 1;garden g 0 9 9999;walk 4;", 8);
        Due.is("until()", x.until(), 2);
        x.shift(0, 1);
        Due.is("until()", x.until(), 3);
        x.carry(0, 0, 5);
        Due.is("until()", x.until(), 1);
        Due.promise(17, "(0: there is none)");
        Due.is("no CAMP", new TrouserSand().until(), 0);
        Due.is("none dug", withSand("hut a 0 1 1;garden g 0 9 9999;", 0).until(), 0);
        Due.is("none dug, no GARDEN", withSand("hut a 0 1 1;", 0).until(), 0);
        x = withSand("hut a 0 1 1;garden g 0 9 9;", 9);
        x.carry(0, 0, 9);
        Due.is("all walked out, no ROOM left", x.until(), 0);
        Due.promise(17, "NONE: not in 99.");
        x = withSand("hut a 0 1 1;garden g 0 1 9999;walk 1;", 99);
        Due.is("just in 99", x.until(), 99);
        x.shift(0, 1);
        Due.is("one half pound more", x.until(), NONE);
        x.carry(0, 0, 1);
        Due.is("one less again", x.until(), 99);
        x = withSand("hut a 0 1 40;garden g 0 99 9;walk 40;", 10);
        Due.is("never", x.until(), NONE);
        x.carry(0, 0, 1);
        Due.is("still never", x.until(), NONE);
        Due.is("no GARDEN", withSand("hut a 0 1 1;", 1).until(), NONE);
    }

    private static final String CAMP = "hut a 0 1 10;hut b 0 1 10;garden g 0 9 99;garden h 0 9 99;pace 13;fall 50;";

    private static String state(TrouserSand x) {
        StringBuilder state = new StringBuilder();
        for (int t = 0; t < 3; t++) {
            for (int what = 0; what < 6; what++) {
                state.append(x.tunnel(t, what)).append(' ');
            }
        }
        return state.append(x.boards()).append(' ').append(x.lies(0)).append(' ').append(x.lies(1)).append(' ').append(x.had(0))
            .append(' ').append(x.had(1)).append(' ').append(x.count(1)).toString();
    }

    /** Two TUNNELS, SAND in both HUTS, some of it in GARDENS. */
    private static TrouserSand dug() {
        TrouserSand x = Due.withCamp(CAMP);
        x.open(1);
        x.open(0);
        for (int i = 0; i < 4; i++) {
            x.shift(0, 3);
            x.shift(1, 1);
        }
        x.carry(0, 0, 7);
        x.carry(1, 1, 8);
        return x;
    }

    /** Changes all that a SLOT keeps, by THE CHANCE too. */
    private static String goOn(TrouserSand x) {
        x.open(0);
        for (int i = 0; i < 9; i++) {
            x.shift(i % 3, 2 + i % 2);
        }
        x.carry(0, 0, 3);
        x.carry(1, 1, 3);
        return state(x);
    }

    private static void keep() {
        Due.promise(18, "A SLOT (0, 1) keeps TUNNELS, SAND, boards, what GARDENS had, THE CHANCE");
        for (int slot = 0; slot < 2; slot++) {
            TrouserSand x = dug();
            String before = state(x);
            x.keep(slot);
            Due.holds("keep() changes nothing", state(x).equals(before));
            String after = goOn(x);
            Due.holds("what comes then is another state", !after.equals(before));
            x.take(slot);
            Due.holds("as it was kept in " + slot, state(x).equals(before));
            Due.holds("THE CHANCE too", goOn(x).equals(after));
            x.take(slot);
            Due.holds("and once more", state(x).equals(before));
        }
        Due.promise(18, "all feet together");
        TrouserSand x = dug();
        int feet = x.tunnel(0, 1) + x.tunnel(1, 1);
        Due.holds("both TUNNELS have feet", x.tunnel(0, 1) > 0 && x.tunnel(1, 1) > 0);
        Due.is("keep(0)", x.keep(0), feet);
        Due.is("keep(0) of none", Due.withCamp(CAMP).keep(0), 0);
        goOn(x);
        Due.is("a later keep(0)", x.keep(0), x.tunnel(0, 1) + x.tunnel(1, 1) + x.tunnel(2, 1));
        Due.promise(18, "RANGE");
        int[] none = {-1, 2, 3, LEAST, GREATEST};
        x = dug();
        for (int slot : none) {
            Due.is("keep(" + slot + ")", x.keep(slot), RANGE);
        }
        Due.is("no SLOT was filled: take(0)", x.take(0), STATE);
        Due.is("no SLOT was filled: take(1)", x.take(1), STATE);
    }

    private static void takeAll() {
        Due.promise(19, "All these become as a SLOT keeps them: all feet together");
        TrouserSand x = dug();
        String early = state(x);
        int earlyFeet = x.keep(0);
        String late = goOn(x);
        int lateFeet = x.keep(1);
        Due.is("take(0)", x.take(0), earlyFeet);
        Due.holds("as 0 keeps them", state(x).equals(early));
        Due.is("take(1)", x.take(1), lateFeet);
        Due.holds("as 1 keeps them", state(x).equals(late));
        // More TUNNELS, begun meanwhile.
        x = Due.withCamp(CAMP);
        Due.is("keep(0) of none", x.keep(0), 0);
        x.open(1);
        x.shift(0, 9);
        Due.is("take(0)", x.take(0), 0);
        Due.is("count(1)", x.count(1), 0);
        Due.is("lies(1)", x.lies(1), 0);
        Due.is("boards()", x.boards(), 80);
        // Begun from other HUTS meanwhile.
        x = Due.withCamp(CAMP);
        x.keep(1);
        x.open(1);
        x.open(0);
        x.shift(0, 9);
        x.keep(0);
        early = state(x);
        x.take(1);
        x.open(0);
        x.open(1);
        x.open(1);
        x.shift(0, 5);
        x.take(0);
        Due.holds("the HUTS of the TUNNELS too", state(x).equals(early));
        // What a SLOT keeps is as it was when it was kept the last time.
        x = dug();
        x.keep(0);
        late = goOn(x);
        x.keep(0);
        goOn(x);
        x.take(0);
        Due.holds("the later one", state(x).equals(late));
        // The rest stays.
        x = dug();
        x.keep(0);
        x.gone(0, 5);
        x.string(7, 1, 0, 0);
        x.join(3, 0);
        x.take(0);
        Due.is("GONE isn't kept", x.count(6), 5);
        Due.is("STRINGS aren't kept", x.count(2), 1);
        Due.is("THE NIGHT isn't kept", x.count(4), 1);
    }

    private static void take() {
        Due.promise(19, "RANGE");
        TrouserSand x = dug();
        x.keep(0);
        x.keep(1);
        String late = goOn(x);
        int[] none = {-1, 2, 3, LEAST, GREATEST};
        for (int slot : none) {
            Due.is("take(" + slot + ")", x.take(slot), RANGE);
        }
        Due.holds("all stays", state(x).equals(late));
        Due.promise(19, "STATE: it is empty");
        x = dug();
        String before = state(x);
        Due.is("take(0)", x.take(0), STATE);
        Due.is("take(1)", x.take(1), STATE);
        Due.holds("all stays", state(x).equals(before));
        x.keep(1);
        Due.is("take(0)", x.take(0), STATE);
        x = dug();
        x.keep(0);
        Due.is("take(1)", x.take(1), STATE);
    }

    /** What one call reckoned must not be seen in the next. */
    private static void callsMixed() {
        Due.promise(16, "MOST in d days");
        TrouserSand x = Due.withCamp("hut a 0 1 9;hut b 0 1 9;hut c 0 1 9;count a 0;count b 30;count c 60;garden g 0 9 99;"
            + "garden h 400 9 99;garden i 400 9 99;reach 50;pace 10;");
        x.open(0);
        x.shift(0, 9);
        x.gone(1, 2);
        Due.is("runners()", x.runners(), 2);
        Due.is("most(1)", x.most(1), 9);
        Due.is("wrong()", x.wrong(), 2);
        Due.is("most(99)", x.most(99), 90);
        x.gone(1, 0);
        x.gone(0, 1);
        Due.is("runners()", x.runners(), NONE);
        Due.is("wrong()", x.wrong(), 2);
        Due.camp(x, "hut a 0 1 9;garden g 0 9 5;garden h 400 9 99;reach 5;pace 10;");
        x.open(0);
        x.shift(0, 1);
        Due.is("most(99) of another camp", x.most(99), 5);
        Due.is("until()", x.until(), NONE);
        Due.camp(x, "hut a 0 1 9;hut b 0 1 9;count b 9;garden g 0 9 99;garden h 0 9 99;pace 10;");
        x.open(0);
        x.shift(0, 5);
        Due.is("most(9)", x.most(9), 50);
        x.gone(1, 1);
        Due.is("a isn't counted", x.runners(), NONE);
        x.most(9);
        Due.is("wrong()", x.wrong(), 1);
    }
}
