/** Term I: the text of A CAMP, its bounds and its FAULTS. */
public final class CampTest {
    private static final int SYNTAX = 1;
    private static final int RANGE = 2;
    private static final int TWICE = 3;
    private static final int ROOM = 4;
    private static final int UNKNOWN = 5;
    private static final String A = "hut a 1 1 1;";
    private static final String A_B = "hut a 1 1 1;hut b 1 1 1;";
    private static final String FIVE = "hut a 1 1 1;hut b 2 2 2;hut c 3 3 3;hut d 4 4 4;hut e 5 5 5;";
    private static final String[] SETTINGS = {"wide", "wood", "sand", "walk", "reach", "board", "air", "pace", "fall"};

    public static void main(String[] args) {
        blanks();
        words();
        numbers();
        clauses();
        hutBounds();
        gardenBounds();
        countRunLookBounds();
        settingBounds();
        howMany();
        names();
        untold();
        places();
        firstFault();
        leastKind();
        syntax();
        range();
        twice();
        room();
        unknown();
        Due.finish();
    }

    private static void blanks() {
        Due.term("I", "TOKENS with any blanks (32, 10) between");
        Due.good("hut a1 2 3;wide10;", 2);
        Due.good("hut a 1 2 3 ; wide 10 ;", 2);
        Due.good("\n \n hut \n\n a\n1\n2\n3\n;\n   wide\n10\n;\n \n", 2);
        Due.good("", 0);
        Due.good(" ", 0);
        Due.good("\n", 0);
        Due.good(" \n\n  ", 0);
        // A blank parts two WORDS and two N.
        Due.good("hut a 1 2 3;count a\n4;", 2);
        Due.faulty("hut a 1\n2;", SYNTAX, 9);
        int[] noBlanks = {0, 8, 9, 11, 12, 13, 31, 33, 127, 128, 138, 160, 255};
        for (int b : noBlanks) {
            Due.faulty("wide" + (char) b + "10;", SYNTAX, 4);
            Due.faulty("wide 10;" + (char) b, SYNTAX, 8);
        }
    }

    private static void words() {
        Due.term("I", "WORDS (small letters, as many as there are, 8 at most)");
        Due.good("hut abcdefgh 1 1 1;", 1);
        Due.good("hut zzzzzzzz 1 1 1;", 1);
        Due.good("hut a 1 1 1;", 1);
        Due.faulty("hut abcdefghi 1 1 1;", SYNTAX, 4);
        Due.faulty("hut abcdefghabcdefghabcdefgh 1 1 1;", SYNTAX, 4);
        Due.faulty("wide 10;abcdefghi", SYNTAX, 8);
        Due.faulty("gardengarden g 1 1 1;", SYNTAX, 0);
        // As many letters as there are: no WORD ends where a keyword would.
        Due.faulty("huta 1 1 1;", SYNTAX, 0);
        Due.faulty("wid 10;", SYNTAX, 0);
        Due.faulty("wides 10;", SYNTAX, 0);
        // The bytes next to a and z, and other letters, are none.
        Due.faulty("hut `a 1 1 1;", SYNTAX, 4);
        Due.faulty("hut {a 1 1 1;", SYNTAX, 4);
        Due.faulty("hut a` 1 1 1;", SYNTAX, 5);
        Due.faulty("hut z{ 1 1 1;", SYNTAX, 5);
        Due.faulty("hut A 1 1 1;", SYNTAX, 4);
        Due.faulty("Hut a 1 1 1;", SYNTAX, 0);
        Due.faulty("hut aB 1 1 1;", SYNTAX, 5);
        Due.faulty("hut a" + (char) 228 + " 1 1 1;", SYNTAX, 5);
        Due.faulty("hut " + (char) ('a' + 128) + " 1 1 1;", SYNTAX, 4);
        // All letters of a name count, up to the eighth.
        String[] unlike = {"a", "b", "z", "aa", "ab", "ba", "bb", "az", "za", "zz", "zzzzzzzz", "azzzzzzz", "zzzzzzza", "aaaaaaaa", "aaaaaaa"};
        for (String one : unlike) {
            for (String other : unlike) {
                String text = "hut " + one + " 1 1 1;hut " + other + " 1 1 1;";
                if (one.equals(other)) {
                    Due.faulty(text, TWICE, 15 + one.length());
                } else {
                    Due.good(text, 2);
                }
            }
        }
    }

    private static void numbers() {
        Due.term("I", "N (digits, as many as there are, 4 at most)");
        Due.is("four digits", Due.good("garden g 0 0 9999;", 1).told(80), 9999);
        Due.is("four digits", Due.good("wide 0010;", 1).told(3), 10);
        Due.is("all ten digits", Due.good("garden g 0 0 1234;garden h 0 0 5678;garden i 0 0 90;", 3).told(81), 5678);
        Due.is("0000", Due.good("wood 0000;", 1).told(4), 0);
        Due.faulty("wide 00010;", SYNTAX, 5);
        Due.faulty("wood 00000;", SYNTAX, 5);
        Due.faulty("garden g 0 0 10000;", SYNTAX, 13);
        // Too many for an int, and one that would wrap around to 10.
        Due.faulty("wide 4294967306;", SYNTAX, 5);
        Due.faulty("wide 99999999999999999999;", SYNTAX, 5);
        Due.faulty("wide /1;", SYNTAX, 5);
        Due.faulty("wide :1;", SYNTAX, 5);
        Due.faulty("wide 10:", SYNTAX, 7);
        Due.faulty("wide 10/;", SYNTAX, 7);
        Due.faulty("wide -1;", SYNTAX, 5);
        Due.faulty("wide +10;", SYNTAX, 5);
        Due.faulty("wide 10.0;", SYNTAX, 7);
        Due.faulty("wide " + (char) ('1' + 128) + "0;", SYNTAX, 5);
    }

    private static void clauses() {
        Due.term("I", "A CAMP is a text =");
        Due.good("", 0);
        Due.good("wide 10;", 1);
        Due.faulty(";", SYNTAX, 0);
        Due.faulty("wide 10;;", SYNTAX, 8);
        Due.faulty("wide 10", SYNTAX, 7);
        Due.faulty("wide 10 wood 1;", SYNTAX, 8);
        Due.faulty("wide 10, wood 1;", SYNTAX, 7);
        String all = "hut a 1 1 1;hut b 1 1 1;garden a 1 1 1;count a 1;run a b 1;look a 1;bed 1 1;wide 10;wood 1;sand 1;"
            + "walk 1;reach 1;board 1;air 10;pace 1;fall 1;";
        Due.good(all, 16);
        // In any order, but that a HUT is told ahead of its count and run.
        Due.good("fall 1;pace 1;air 10;bed 1 1;look a 1;garden a 1 1 1;hut b 1 1 1;hut a 1 1 1;run a b 1;count a 1;", 10);
    }

    /** A text's front, its bounds and its back: the least and the greatest are taken, those beyond are RANGE. */
    private static void bounds(String front, int least, int greatest, String back) {
        int clauses = (front + back).split(";", -1).length - 1;
        Due.good(front + least + back, clauses);
        Due.good(front + greatest + back, clauses);
        if (least > 0) {
            Due.faulty(front + (least - 1) + back, RANGE, front.length());
        }
        if (greatest < 9999) {
            Due.faulty(front + (greatest + 1) + back, RANGE, front.length());
            Due.faulty(front + 9999 + back, RANGE, front.length());
        }
    }

    private static void hutBounds() {
        Due.term("I", "hut: its x 0 .. 400 feet along the wire");
        bounds("hut a ", 0, 400, " 1 1;");
        Due.is("told(20)", Due.withCamp("hut a 400 300 40;").told(20), 400);
        Due.is("told(20)", Due.withCamp("hut a 0 1 1;").told(20), 0);
        Due.term("I", "how far it is back from the wire 1 .. 300 feet");
        bounds("hut a 1 ", 1, 300, " 1;");
        Due.is("told(30)", Due.withCamp("hut a 400 300 40;").told(30), 300);
        Due.is("told(30)", Due.withCamp("hut a 0 1 1;").told(30), 1);
        Due.term("I", "its MEN 1 .. 40");
        bounds("hut a 1 1 ", 1, 40, ";");
        Due.is("told(40)", Due.withCamp("hut a 400 300 40;").told(40), 40);
        Due.is("told(40)", Due.withCamp("hut a 0 1 1;").told(40), 1);
    }

    private static void gardenBounds() {
        Due.term("I", "garden: its x 0 .. 400");
        bounds("garden g ", 0, 400, " 1 1;");
        Due.is("told(60)", Due.withCamp("garden g 400 999 9999;").told(60), 400);
        Due.is("told(60)", Due.withCamp("garden g 0 1 1;").told(60), 0);
        Due.term("I", "ROOM a day 0 .. 999 half pounds");
        bounds("garden g 1 ", 0, 999, " 1;");
        Due.is("told(70)", Due.withCamp("garden g 400 999 9999;").told(70), 999);
        Due.is("told(70)", Due.withCamp("garden g 1 0 1;").told(70), 0);
        Due.term("I", "ROOM in all 0 .. 9999");
        bounds("garden g 1 1 ", 0, 9999, ";");
        Due.is("told(80)", Due.withCamp("garden g 400 999 9999;").told(80), 9999);
        Due.is("told(80)", Due.withCamp("garden g 1 1 0;").told(80), 0);
    }

    private static void countRunLookBounds() {
        Due.term("I", "count: the minute 0 .. 99 at which the guards count a HUT");
        bounds(A + "count a ", 0, 99, ";");
        Due.is("told(50)", Due.withCamp(A + "count a 0;").told(50), 0);
        Due.is("told(50)", Due.withCamp(A + "count a 99;").told(50), 99);
        Due.term("I", "run: minutes 0 .. 60 between two HUTS");
        bounds(A_B + "run a b ", 0, 60, ";");
        Due.is("run(0, 1)", Due.withCamp(A_B + "run a b 0;").run(0, 1), 0);
        Due.is("run(0, 1)", Due.withCamp(A_B + "run a b 60;").run(0, 1), 60);
        Due.term("I", "look: of a hundred days how many it would find a tunnel on, 0 .. 99");
        bounds("look a ", 0, 99, ";");
        Due.is("told(90)", Due.withCamp("look a 0;").told(90), 0);
        Due.is("told(90)", Due.withCamp("look a 99;").told(90), 99);
    }

    private static void setting(String name, int least, int greatest, int untold, int what) {
        bounds(name + " ", least, greatest, ";");
        Due.is("told(" + what + ") untold", Due.withCamp("").told(what), untold);
        Due.is("told(" + what + ")", Due.withCamp(name + " " + least + ";").told(what), least);
        Due.is("told(" + what + ")", Due.withCamp(name + " " + greatest + ";").told(what), greatest);
    }

    private static void settingBounds() {
        Due.term("I", "boards that a bed has 0 .. 20 and must keep 0 .. 20 (8, 4)");
        bounds("bed ", 0, 20, " 1;");
        bounds("bed 1 ", 0, 20, ";");
        Due.is("told(12) untold", Due.withCamp("").told(12), 8);
        Due.is("told(13) untold", Due.withCamp("").told(13), 4);
        Due.is("told(12)", Due.withCamp("bed 20 0;").told(12), 20);
        Due.is("told(13)", Due.withCamp("bed 20 0;").told(13), 0);
        Due.is("told(12)", Due.withCamp("bed 0 20;").told(12), 0);
        Due.is("told(13)", Due.withCamp("bed 0 20;").told(13), 20);
        Due.term("I", "wide 10 .. 400 feet (200)");
        setting("wide", 10, 400, 200, 3);
        Due.term("I", "wood 0 .. 300 feet beyond the wire (100)");
        setting("wood", 0, 300, 100, 4);
        Due.term("I", "sand 1 .. 99 half pounds a foot (10)");
        setting("sand", 1, 99, 10, 5);
        Due.term("I", "walk 1 .. 40 half pounds that a man takes out a day (6)");
        setting("walk", 1, 40, 6, 6);
        Due.term("I", "reach 0 .. 700 feet (200)");
        setting("reach", 0, 700, 200, 7);
        Due.term("I", "board 0 .. 9 a foot (2)");
        setting("board", 0, 9, 2, 8);
        Due.term("I", "air 10 .. 200 feet (60)");
        setting("air", 10, 200, 60, 9);
        Due.term("I", "pace 1 .. 50 tenths of a foot (5)");
        setting("pace", 1, 50, 5, 10);
        Due.term("I", "fall 0 .. 50 of a hundred (0)");
        setting("fall", 0, 50, 0, 11);
    }

    private static void howMany() {
        Due.term("I", "HUTS, at most 5");
        Due.is("told(0)", Due.good(FIVE, 5).told(0), 5);
        Due.faulty(FIVE + "hut f 1 1 1;", ROOM, FIVE.length());
        Due.term("I", "GARDENS, at most 4");
        String gardens = "garden a 1 1 1;garden b 1 1 1;garden c 1 1 1;garden d 1 1 1;";
        Due.is("told(1)", Due.good(gardens, 4).told(1), 4);
        Due.faulty(gardens + "garden e 1 1 1;", ROOM, gardens.length());
        Due.term("I", "LOOKS, at most 4");
        String looks = "look a 1;look b 1;look c 1;look d 1;";
        Due.is("told(2)", Due.good(looks, 4).told(2), 4);
        Due.faulty(looks + "look e 1;", ROOM, looks.length());
        Due.is("all of them", Due.good(FIVE + gardens + looks, 13).count(0), 13);
        Due.term("I", "are numbered from 0 as they come");
        TrouserSand x = Due.good("look z 7;hut z 9 1 1;garden z 8 1 1;look a 6;garden a 5 1 1;hut a 3 1 1;", 6);
        Due.is("told(20)", x.told(20), 9);
        Due.is("told(21)", x.told(21), 3);
        Due.is("told(60)", x.told(60), 8);
        Due.is("told(61)", x.told(61), 5);
        Due.is("told(90)", x.told(90), 7);
        Due.is("told(91)", x.told(91), 6);
    }

    private static void names() {
        Due.term("I", "names: any WORDS, of one kind unlike");
        Due.good("hut a 1 1 1;garden a 1 1 1;look a 1;", 3);
        String[] keywords = {"hut", "garden", "count", "run", "look", "bed"};
        for (String name : keywords) {
            Due.good("hut " + name + " 1 1 1;garden " + name + " 1 1 1;look " + name + " 1;count " + name + " 1;", 4);
        }
        for (String name : SETTINGS) {
            Due.good("hut " + name + " 1 1 1;garden " + name + " 1 1 1;look " + name + " 1;count " + name + " 1;", 4);
        }
        Due.good("hut run 1 1 1;hut hut 1 1 1;run run hut 1;", 3);
        Due.faulty("hut a 1 1 1;hut a 2 2 2;", TWICE, 16);
        Due.faulty("garden a 1 1 1;garden a 2 2 2;", TWICE, 22);
        Due.faulty("look a 1;look a 2;", TWICE, 14);
    }

    private static void untold() {
        Due.term("I", "either way (5, if untold)");
        TrouserSand x = Due.withCamp(FIVE + "run a b 60;run d c 0;run b e 7;");
        int[][] due = {{0, 60, 5, 5, 5}, {60, 0, 5, 5, 7}, {5, 5, 0, 0, 5}, {5, 5, 0, 0, 5}, {5, 7, 5, 5, 0}};
        for (int h = 0; h < 5; h++) {
            for (int o = 0; o < 5; o++) {
                Due.is("run(" + h + ", " + o + ")", x.run(h, o), due[h][o]);
            }
        }
        Due.term("I", "Bounds (and what isn't told)");
        // What an earlier CAMP told is told no more.
        x = Due.withCamp(A_B + "count a 9;run a b 9;bed 9 9;wide 99;wood 9;sand 9;walk 9;reach 9;board 9;air 99;pace 9;fall 9;");
        Due.is("camp()", Due.camp(x, A_B), 2);
        int[] untold = {2, 0, 0, 200, 100, 10, 6, 200, 2, 60, 5, 0, 8, 4};
        for (int what = 0; what < untold.length; what++) {
            Due.is("told(" + what + ")", x.told(what), untold[what]);
        }
        Due.is("told(50)", x.told(50), -1);
        Due.is("run(0, 1)", x.run(0, 1), 5);
        Due.is("a faulty text tells nothing", Due.camp(x, A + "wide 77;count a 7;bed 3 3;!"), -1);
        Due.is("told(3)", x.told(3), 200);
        Due.is("the same text, mended", Due.camp(x, A + "wide 78;count a 8;bed 4 4;"), 4);
        Due.is("told(3)", x.told(3), 78);
    }

    private static void places() {
        Due.term("I", "PLACE (a TOKEN's first byte; the text's length at its end)");
        Due.faulty("  wide  9  ;", RANGE, 8);
        Due.faulty("hut abc 1 1 1;hut abc", TWICE, 18);
        Due.faulty("hut abc 1 1 1;\ncount abd 1;", UNKNOWN, 21);
        Due.faulty("wide 1000;", RANGE, 5);
        Due.faulty("wide", SYNTAX, 4);
        Due.faulty("wide ", SYNTAX, 5);
        Due.faulty("wide 10  \n", SYNTAX, 10);
        Due.faulty("wide 10;hut", SYNTAX, 11);
        StringBuilder text = new StringBuilder("wide 10");
        while (text.length() < 900) {
            text.append('\n');
        }
        Due.faulty(text.toString(), SYNTAX, 900);
    }

    private static void firstFault() {
        Due.term("I", "the first come to as TOKENS are read one by one");
        Due.faulty("wide 9;hat", RANGE, 5);
        Due.faulty("wide 9 9", RANGE, 5);
        Due.faulty("hut a 401 0 41;", RANGE, 6);
        Due.faulty("hut a 1 0 41;", RANGE, 8);
        Due.faulty("hut a 1 1 41 1", RANGE, 10);
        Due.faulty(A + "hut a 401 1 1;", TWICE, 16);
        Due.faulty(A + "hut a", TWICE, 16);
        Due.faulty("count a 100;", UNKNOWN, 6);
        Due.faulty(A + "run b b 61;", UNKNOWN, 16);
        Due.faulty(A + "run a c 61;", UNKNOWN, 18);
        Due.faulty("wide 10;wide", TWICE, 8);
        Due.faulty("wide 10;wide 9;", TWICE, 8);
        Due.faulty(FIVE + "hut", ROOM, FIVE.length());
        Due.faulty(FIVE + "hut a 401 1 1;", ROOM, FIVE.length());
        Due.faulty("hut a 1 1 1 hut a", SYNTAX, 12);
        // A clause that has no ";" yet has told nothing.
        Due.faulty("hut a 1 1 1 count a 1;", SYNTAX, 12);
    }

    private static void leastKind() {
        Due.term("I", "of one TOKEN the least KIND");
        Due.faulty("wide 99999;", SYNTAX, 5);
        Due.faulty("count abcdefghi 1;", SYNTAX, 6);
        Due.faulty("hut abcdefgh 1 1 1;hut abcdefghi 1 1 1;", SYNTAX, 23);
        Due.faulty(A + "count 7 1;", SYNTAX, 18);
        Due.faulty("wide 10;wide1", TWICE, 8);
        Due.faulty("wide 10;widex", SYNTAX, 8);
    }

    /** Each clause's TOKENS; at each place each other TOKEN, byte, too long run and the end. */
    private static void syntax() {
        Due.term("I", "1 SYNTAX: a TOKEN (or byte that is none, a run that is too long) with which no text goes on");
        String[] clauses = {"hut c 1 1 1 ;", "garden c 1 1 1 ;", "count a 1 ;", "run a b 1 ;", "look c 1 ;", "bed 1 1 ;",
            "wide 10 ;", "wood 1 ;", "sand 1 ;", "walk 1 ;", "reach 1 ;", "board 1 ;", "air 10 ;", "pace 1 ;", "fall 1 ;"};
        String[] pieces = {"b", "hut", "12", ";", "!", "A", "abcdefghi", "00001", "\u00ff", ""};
        for (String clause : clauses) {
            Due.good(A_B + clause, 3);
            String[] tokens = clause.split(" ");
            StringBuilder front = new StringBuilder(A_B);
            for (int i = 0; i < tokens.length; i++) {
                for (String piece : pieces) {
                    boolean goesOn = i == 0 ? piece.equals("hut") || piece.isEmpty()
                        : tokens[i].equals(piece) || tokens[i].matches("[a-z]+") && piece.matches("[a-z]{1,8}")
                        || tokens[i].matches("[0-9]+") && piece.equals("12");
                    if (!goesOn) {
                        Due.faulty(front + piece, SYNTAX, front.length());
                    }
                }
                front.append(tokens[i]).append(' ');
            }
        }
        String[] noKeywords = {"hat", "huts", "hu", "gardens", "c", "beds", "b", "walks", "floor", "abcdefgh"};
        for (String word : noKeywords) {
            Due.faulty(word + " 1;", SYNTAX, 0);
        }
    }

    private static void range() {
        Due.term("I", "2 RANGE: an N out of its bounds");
        Due.faulty("hut a 401 1 1;", RANGE, 6);
        Due.faulty("hut a 1 0 1;", RANGE, 8);
        Due.faulty("hut a 1 1 0;", RANGE, 10);
        Due.faulty("bed 21 1;", RANGE, 4);
        Due.faulty("bed 1 21;", RANGE, 6);
        Due.faulty("air 0009;", RANGE, 4);
        Due.faulty("fall 51", RANGE, 5);
    }

    private static void twice() {
        Due.term("I", "3 TWICE: a name that one of its kind has");
        Due.faulty(FIVE.substring(0, 48) + "hut a 1 1 1;", TWICE, 52);
        Due.faulty(FIVE.substring(0, 48) + "hut d 1 1 1;", TWICE, 52);
        Due.faulty("garden a 1 1 1;garden b 1 1 1;garden c 1 1 1;garden a 1 1 1;", TWICE, 52);
        Due.faulty("look a 1;look b 1;look c 1;look c 1;", TWICE, 32);
        Due.term("I", "the name of a HUT that is counted already");
        Due.faulty(A + "count a 0;count a 0;", TWICE, 28);
        Due.faulty(A_B + "count a 1;count b 1;count a 2;", TWICE, 50);
        Due.good(A_B + "count b 1;count a 1;", 4);
        Due.term("I", "the second name of a run that is its first");
        Due.faulty(A + "run a a 5;", TWICE, 18);
        Due.faulty(A_B + "run b b 5;", TWICE, 30);
        Due.term("I", "or of two HUTS that have one");
        Due.faulty(A_B + "run a b 0;run a b 0;", TWICE, 40);
        Due.faulty(A_B + "run a b 5;run b a 6;", TWICE, 40);
        Due.good(FIVE + "run a b 1;run a c 1;run a d 1;run a e 1;run b c 1;run b d 1;run b e 1;run c d 1;run c e 1;run e d 1;", 15);
        Due.term("I", "bed, wide, wood .. again");
        Due.faulty("bed 1 1;bed 1 1;", TWICE, 8);
        // What tells just what isn't told is told all the same.
        Due.faulty("bed 8 4; bed 8 4;", TWICE, 9);
        int[] untold = {200, 100, 10, 6, 200, 2, 60, 5, 0};
        for (int i = 0; i < SETTINGS.length; i++) {
            String once = SETTINGS[i] + " " + untold[i] + ";";
            Due.faulty(once + once, TWICE, once.length());
            Due.faulty(once + "hut a 1 1 1; " + SETTINGS[i], TWICE, once.length() + 13);
        }
    }

    private static void room() {
        Due.term("I", "4 ROOM: a HUT, GARDEN, LOOK too many, at its first WORD");
        Due.faulty(FIVE + "hut f 1 1 1;", ROOM, FIVE.length());
        Due.faulty(FIVE + " \nhut a 1 1 1;", ROOM, FIVE.length() + 2);
        String gardens = "garden a 1 1 1;garden b 1 1 1;garden c 1 1 1;garden d 1 1 1;";
        Due.faulty(gardens + "  garden e 1 1 1;", ROOM, gardens.length() + 2);
        Due.faulty(gardens + "garden a 1 1 1;", ROOM, gardens.length());
        String looks = "look a 1;look b 1;look c 1;look d 1;";
        Due.faulty(looks + "\nlook e 1;", ROOM, looks.length() + 1);
        Due.faulty(looks + "look", ROOM, looks.length());
        // Room for one kind is no room for another.
        Due.good(gardens + looks + "hut e 1 1 1;", 9);
        Due.good(FIVE + "garden a 1 1 1;look a 1;", 7);
    }

    private static void unknown() {
        Due.term("I", "5 UNKNOWN: a W that should be a HUT's name and is none");
        Due.faulty("count a 1;", UNKNOWN, 6);
        Due.faulty("count a 1;hut a 1 1 1;", UNKNOWN, 6);
        Due.faulty("run a b 5;", UNKNOWN, 4);
        Due.faulty(A + "run a b 5;", UNKNOWN, 18);
        Due.faulty(A + "run b a 5;", UNKNOWN, 16);
        Due.faulty(A + "run b b 5;", UNKNOWN, 16);
        Due.faulty("garden g 1 1 1;look g 1;count g 1;", UNKNOWN, 30);
        Due.faulty("hut abc 1 1 1;count ab 1;", UNKNOWN, 20);
        Due.faulty("hut ab 1 1 1;count abc 1;", UNKNOWN, 19);
        // A HUT of an earlier CAMP is none.
        TrouserSand x = Due.withCamp(A_B);
        Due.is("camp()", Due.camp(x, "hut c 1 1 1;count b 1;"), -1);
        Due.is("fault(0)", x.fault(0), UNKNOWN);
        Due.is("fault(1)", x.fault(1), 18);
        Due.is("nor one of a faulty text", Due.camp(x, "count c 1;"), -1);
        Due.is("fault(0)", x.fault(0), UNKNOWN);
    }
}
