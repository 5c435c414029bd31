/** Promises 20 to 22, and what Term III says of counts. */
public final class CountsTest {
    private static final int NONE = TrouserSand.NONE;
    private static final int RANGE = TrouserSand.RANGE;
    private static final int FULL = TrouserSand.FULL;
    private static final int LEAST = Integer.MIN_VALUE;
    private static final int GREATEST = Integer.MAX_VALUE;
    private static final String ROW = "hut a 0 1 3;hut b 0 1 3;hut c 0 1 3;count a 0;count b 10;count c 20;";

    public static void main(String[] args) {
        goneOfMen();
        thoseThatAreTold();
        alikeMinutes();
        atLeastTheRun();
        onFromThere();
        right();
        beginners();
        wrongOrders();
        gone();
        runners();
        runnersNone();
        runnersFull();
        wrong();
        Due.finish();
    }

    /** A CAMP with so many GONE from each HUT. */
    private static TrouserSand with(String text, int... gone) {
        TrouserSand x = Due.withCamp(text);
        for (int h = 0; h < gone.length; h++) {
            x.gone(h, gone[h]);
        }
        return x;
    }

    private static void goneOfMen() {
        Due.term("III", "how many of its MEN aren't there when they are counted (0 .. MEN)");
        TrouserSand x = Due.withCamp("hut a 0 1 1;hut b 0 1 40;");
        Due.is("gone(0, 1)", x.gone(0, 1), 0);
        Due.is("gone(0, 2)", x.gone(0, 2), RANGE);
        Due.is("gone(1, 40)", x.gone(1, 40), 0);
        Due.is("gone(1, 41)", x.gone(1, 41), RANGE);
        Due.is("gone(1, 0)", x.gone(1, 0), 40);
        Due.is("gone(1, -1)", x.gone(1, -1), RANGE);
        Due.is("count(6)", x.count(6), 1);
    }

    private static void thoseThatAreTold() {
        Due.term("III", "The guards count HUTS by their minutes (those that are told");
        Due.is("none is counted: runners()", with("hut a 0 1 3;hut b 0 1 3;", 3, 3).runners(), 0);
        Due.is("none is counted: wrong()", with("hut a 0 1 3;hut b 0 1 3;", 3, 3).wrong(), 0);
        // b is counted first, though a was told first.
        String text = "hut a 0 1 3;hut b 0 1 3;count a 20;count b 10;";
        Due.is("from b to a", with(text, 1, 0).runners(), 1);
        Due.is("from a to b", with(text, 0, 1).runners(), NONE);
        // Minute 0 is told; who isn't counted neither wants one nor is one.
        Due.is("from minute 0", with("hut a 0 1 3;hut b 0 1 3;count a 0;count b 5;", 0, 1).runners(), 1);
        Due.is("from none", with("hut a 0 1 3;hut b 0 1 3;count b 99;", 0, 1).runners(), NONE);
        Due.is("to none", with("hut a 0 1 3;hut b 0 1 3;count a 0;", 0, 3).runners(), 0);
        // Those that an earlier CAMP counted are counted no more.
        TrouserSand x = with("hut a 0 1 3;hut b 0 1 3;count a 0;count b 10;", 0, 1);
        Due.is("runners()", x.runners(), 1);
        Due.camp(x, "hut a 0 1 3;hut b 0 1 3;count b 10;");
        x.gone(1, 1);
        Due.is("wrong()", x.wrong(), 1);
        Due.is("runners()", x.runners(), NONE);
        // Nor does SAND that was reckoned before: a isn't counted, none is GONE.
        x = Due.withCamp("hut a 0 1 9;hut b 0 1 9;count b 9;garden g 0 9 99;garden h 0 9 99;pace 10;");
        x.open(0);
        x.shift(0, 5);
        Due.is("most(9)", x.most(9), 50);
        Due.is("runners()", x.runners(), 0);
        Due.is("most(9)", x.most(9), 50);
        Due.is("wrong()", x.wrong(), 0);
    }

    private static void alikeMinutes() {
        Due.term("III", "of one minute the least HUT first");
        String text = "hut a 0 1 2;hut b 0 1 3;count a 7;count b 7;run a b 0;";
        Due.is("a, then b", with(text, 0, 2).runners(), 2);
        Due.is("not b, then a", with(text, 1, 0).runners(), NONE);
        Due.is("told the other way", with("hut a 0 1 2;hut b 0 1 3;count b 7;count a 7;run a b 0;", 0, 2).runners(), 2);
        Due.is("a run of 1", with("hut a 0 1 2;hut b 0 1 3;count a 7;count b 7;run a b 1;", 0, 1).runners(), NONE);
        Due.is("untold", with("hut a 0 1 2;hut b 0 1 3;count a 7;count b 7;", 0, 1).runners(), NONE);
        String three = "hut a 0 1 2;hut b 0 1 1;hut c 0 1 2;count a 7;count b 7;count c 7;run a b 0;run b c 0;run a c 0;";
        Due.is("a, b, c: one runs on", with(three, 0, 1, 1).runners(), 1);
    }

    private static void atLeastTheRun() {
        Due.term("III", "if its minute less that of the HUT he comes from is at least the run between both");
        String text = "hut a 0 1 2;hut b 0 1 3;count a 3;count b 13;run a b ";
        Due.is("just so many", with(text + "10;", 0, 1).runners(), 1);
        Due.is("one more", with(text + "11;", 0, 1).runners(), NONE);
        Due.is("none", with(text + "0;", 0, 1).runners(), 1);
        Due.is("the run told the other way", with("hut a 0 1 2;hut b 0 1 3;count a 3;count b 13;run b a 10;", 0, 1).runners(), 1);
        Due.is("5, if untold", with("hut a 0 1 2;hut b 0 1 3;count a 3;count b 8;", 0, 1).runners(), 1);
        Due.is("4, if untold", with("hut a 0 1 2;hut b 0 1 3;count a 3;count b 7;", 0, 1).runners(), NONE);
        Due.is("from 0 to 60", with("hut a 0 1 2;hut b 0 1 3;count a 0;count b 60;run a b 60;", 0, 1).runners(), 1);
        Due.is("from 0 to 59", with("hut a 0 1 2;hut b 0 1 3;count a 0;count b 59;run a b 60;", 0, 1).runners(), NONE);
        // Not back to one that was counted already, however long ago.
        Due.is("back", with("hut a 0 1 2;hut b 0 1 3;count a 0;count b 99;run a b 0;", 1, 0).runners(), NONE);
    }

    private static void onFromThere() {
        Due.term("III", "and stand there for one who is GONE; and on from there likewise");
        Due.is("one for both", with(ROW, 0, 1, 1).runners(), 1);
        Due.is("three, one of them on", with(ROW, 0, 3, 1).runners(), 3);
        Due.is("three, all on", with(ROW, 0, 3, 3).runners(), 3);
        // From a to c is too far, by way of b it isn't: for one who stands in b.
        String far = ROW + "run a b 10;run b c 10;run a c 21;";
        Due.is("by way of b", with(far, 0, 3, 1).runners(), 3);
        Due.is("b's own go", with(far, 0, 0, 3).runners(), 3);
        Due.is("by way of b, three", with(far, 0, 3, 3).runners(), 3);
        // a to b and b to c alone, with none left in b: he stands in b, runs on from b.
        Due.is("one from a, by way of b, to c", with("hut a 0 1 1;hut b 0 1 1;hut c 0 1 1;count a 0;count b 10;count c 20;run a c 21;",
            0, 1, 1).runners(), 1);
        // From b to c is too far: who stands in b can't, another one from a must.
        Due.is("two from a", with(ROW + "run b c 11;", 0, 1, 1).runners(), 2);
        String five = "hut a 0 1 1;hut b 0 1 1;hut c 0 1 1;hut d 0 1 1;hut e 0 1 1;count a 0;count b 5;count c 10;count d 15;count e 20;";
        Due.is("one for four", with(five, 0, 1, 1, 1, 1).runners(), 1);
    }

    private static void right() {
        Due.term("III", "RIGHT: each who is GONE from a HUT that is counted has one who stands for him");
        Due.is("all", with(ROW, 0, 3, 0).runners(), 3);
        Due.is("none for one", with("hut a 0 1 2;hut b 0 1 3;count a 0;count b 10;", 0, 3).runners(), NONE);
        Due.is("none for the first", with(ROW, 1, 0, 0).runners(), NONE);
        // One of two can't be in two HUTS between which he can't run.
        Due.is("a: one; b and c at once", with("hut a 0 1 1;hut b 0 1 1;hut c 0 1 1;count a 0;count b 10;count c 10;run b c 1;",
            0, 1, 1).runners(), NONE);
        // Who stands for one may be needed elsewhere: a's two must go to b and to c.
        Due.is("a: two", with("hut a 0 1 2;hut b 0 1 1;hut c 0 1 1;count a 0;count b 10;count c 10;run b c 1;", 0, 1, 1).runners(), 2);
    }

    private static void beginners() {
        Due.term("III", "each beginning in a HUT that is counted where he isn't GONE (as many may begin there as are there)");
        Due.is("2 of 3 are there", with(ROW, 0, 1, 2).runners(), 2);
        Due.is("1 of 3 is in b, a is too far", with(ROW + "run a c 21;run a b 11;", 0, 0, 3).runners(), 3);
        Due.is("2 are in b, one is GONE and none stands for him", with("hut b 0 1 3;hut c 0 1 3;count b 10;count c 20;", 1, 2).runners(), NONE);
        // b: 2 are there and one stands for the third: 3 may go on to c.
        Due.is("2 and one who stands there", with(ROW + "run a c 60;", 0, 1, 3).runners(), 3);
        Due.is("not 4", with("hut a 0 1 9;hut b 0 1 3;hut c 0 1 4;count a 0;count b 10;count c 20;run a c 60;", 0, 1, 4).runners(), NONE);
        Due.is("all of a", with("hut a 0 1 10;hut b 0 1 10;count a 0;count b 10;", 0, 10).runners(), 10);
        Due.is("all of a but one", with("hut a 0 1 9;hut b 0 1 10;count a 0;count b 10;", 0, 10).runners(), NONE);
        Due.is("d isn't counted", with("hut a 0 1 1;hut b 0 1 2;hut d 0 1 9;count a 0;count b 10;", 0, 2, 0).runners(), NONE);
    }

    private static void wrongOrders() {
        Due.term("III", "WRONG ORDERS: of all ways to give the same minutes to the HUTS that are counted");
        Due.is("none GONE", with(ROW, 0, 0, 0).wrong(), 0);
        Due.is("a first: 2 of 6", with(ROW, 1, 0, 0).wrong(), 2);
        Due.is("c first: 2 of 6", with(ROW, 0, 0, 1).wrong(), 2);
        Due.is("a or b first: 4 of 6", with(ROW, 1, 1, 0).wrong(), 4);
        Due.is("whoever is first", with(ROW, 1, 1, 1).wrong(), 6);
        // The same minutes: 0, 1, 9. A run of 5 can't be made from 0 to 1: one who is GONE must be last.
        Due.is("4 of 6", with("hut a 0 1 3;hut b 0 1 3;hut c 0 1 3;count a 0;count b 1;count c 9;", 1, 0, 0).wrong(), 4);
        Due.is("d isn't counted", with("hut a 0 1 3;hut b 0 1 3;hut d 0 1 3;count a 0;count b 10;", 0, 1, 3).wrong(), 1);
        // The minutes that are told stay as they are.
        TrouserSand x = with(ROW, 0, 1, 1);
        Due.is("wrong()", x.wrong(), 4);
        Due.is("told(50)", x.told(50), 0);
        Due.is("told(51)", x.told(51), 10);
        Due.is("told(52)", x.told(52), 20);
        Due.is("runners()", x.runners(), 1);
        Due.term("III", "(as many as there are rows of these HUTS)");
        String five = "hut a 0 1 3;hut b 0 1 3;hut c 0 1 3;hut d 0 1 3;hut e 0 1 3;count a 0;count b 10;count c 20;count d 30;count e 40;";
        Due.is("e first: 24 of 120", with(five, 0, 0, 0, 0, 1).wrong(), 24);
        Due.is("whoever is first: 120", with(five, 1, 1, 1, 1, 1).wrong(), 120);
        // From 0, 1 and 2 on none is in time but for 30: a must be last.
        Due.is("a last: 6 of 24 are RIGHT", with("hut a 0 1 3;hut b 0 1 3;hut c 0 1 3;hut d 0 1 3;count a 0;count b 1;count c 2;"
            + "count d 30;", 1).wrong(), 18);
        // a and e both at 6, 9 or 12.
        Due.is("36 of 120 are RIGHT", with("hut a 0 1 3;hut b 0 1 3;hut c 0 1 3;hut d 0 1 3;hut e 0 1 3;count a 0;count b 3;count c 6;"
            + "count d 9;count e 12;", 1, 0, 0, 0, 1).wrong(), 84);
        Due.is("of one: 1", with("hut a 0 1 3;count a 5;", 1).wrong(), 1);
        Due.is("of one: 0", with("hut a 0 1 3;count a 5;", 0).wrong(), 0);
        // Minutes that are alike are given in two ways all the same.
        Due.is("both rows alike", with("hut a 0 1 2;hut b 0 1 3;count a 7;count b 7;run a b 0;", 1, 0).wrong(), 2);
        Due.is("both rows alike", with("hut a 0 1 2;hut b 0 1 3;count a 7;count b 7;run a b 0;", 0, 1).wrong(), 0);
        Due.is("two of three alike", with("hut a 0 1 3;hut b 0 1 3;hut c 0 1 3;count a 7;count b 7;count c 30;", 1, 0, 0).wrong(), 4);
    }

    private static void gone() {
        Due.promise(20, "So many are GONE from a HUT: how many were");
        TrouserSand x = Due.withCamp("hut a 0 1 4;hut b 0 1 40;count a 5;");
        Due.is("gone(0, 4)", x.gone(0, 4), 0);
        Due.is("gone(0, 1)", x.gone(0, 1), 4);
        Due.is("gone(1, 9)", x.gone(1, 9), 0);
        Due.is("gone(0, 0)", x.gone(0, 0), 1);
        Due.is("gone(0, 0)", x.gone(0, 0), 0);
        Due.is("count(6)", x.count(6), 9);
        Due.promise(20, "RANGE");
        int[] none = {-1, 2, 5, LEAST, GREATEST};
        for (int hut : none) {
            Due.is("gone(" + hut + ", 0)", x.gone(hut, 0), RANGE);
        }
        int[] numbers = {-1, 5, LEAST, GREATEST};
        x.gone(0, 3);
        for (int n : numbers) {
            Due.is("gone(0, " + n + ")", x.gone(0, n), RANGE);
        }
        Due.is("count(6) stays", x.count(6), 12);
        Due.is("gone(0, 2)", x.gone(0, 2), 3);
    }

    private static void runners() {
        Due.promise(21, "RUNNERS");
        Due.is("none GONE", with(ROW, 0, 0, 0).runners(), 0);
        Due.is("no CAMP", new TrouserSand().runners(), 0);
        // Two of b's three are GONE, two of c's: one of a's, who runs on, would do for neither both.
        Due.is("two", with(ROW, 0, 2, 2).runners(), 2);
        Due.is("three", with(ROW, 0, 1, 3).runners(), 3);
        TrouserSand x = with(ROW, 0, 2, 2);
        x.runners();
        Due.is("GONE stay", x.count(6), 4);
        Due.is("and again", x.runners(), 2);
        x.gone(2, 0);
        x.gone(1, 1);
        Due.is("as they are now", x.runners(), 1);
    }

    private static void runnersNone() {
        Due.promise(21, "NONE: it can't be made RIGHT");
        Due.is("the first", with(ROW, 1, 0, 0).runners(), NONE);
        Due.is("one HUT alone", with("hut a 0 1 3;count a 5;", 1).runners(), NONE);
        Due.is("too many", with("hut a 0 1 2;hut b 0 1 3;count a 0;count b 10;", 0, 3).runners(), NONE);
        Due.is("too far", with("hut a 0 1 2;hut b 0 1 3;count a 0;count b 10;run a b 11;", 0, 1).runners(), NONE);
        TrouserSand x = with(ROW, 1, 0, 0);
        x.runners();
        Due.is("GONE stay", x.gone(0, 0), 1);
        Due.is("and then it can", x.runners(), 0);
    }

    private static void runnersFull() {
        Due.promise(21, "FULL: more than 10 are GONE from HUTS that are counted");
        String text = "hut a 0 1 40;hut b 0 1 40;hut c 0 1 40;count a 0;count b 50;";
        Due.is("10", with(text, 0, 10).runners(), 10);
        Due.is("11", with(text, 0, 11).runners(), FULL);
        Due.is("40", with(text, 0, 40).runners(), FULL);
        Due.is("10 of all", with(text, 1, 9).runners(), NONE);
        Due.is("11 of all", with(text, 1, 10).runners(), FULL);
        Due.is("those of a HUT that isn't counted don't count", with(text, 0, 10, 40).runners(), 10);
        Due.is("FULL ahead of NONE", with(text, 11, 0).runners(), FULL);
        TrouserSand x = with(text, 0, 11);
        x.runners();
        Due.is("GONE stay", x.gone(1, 10), 11);
        Due.is("and then", x.runners(), 10);
        Due.promise(22, "FULL likewise.");
        Due.is("10", with(text, 0, 10).wrong(), 1);
        Due.is("11", with(text, 0, 11).wrong(), FULL);
        Due.is("10 of all", with(text, 1, 9).wrong(), 2);
        Due.is("11 of all", with(text, 1, 10).wrong(), FULL);
        Due.is("those of a HUT that isn't counted don't count", with(text, 0, 10, 40).wrong(), 1);
        x = with(text, 0, 11);
        x.wrong();
        Due.is("GONE stay", x.gone(1, 10), 11);
    }

    private static void wrong() {
        Due.promise(22, "WRONG ORDERS");
        Due.is("no CAMP", new TrouserSand().wrong(), 0);
        Due.is("no HUT is counted", with("hut a 0 1 3;", 3).wrong(), 0);
        TrouserSand x = with("hut a 0 1 1;hut b 0 1 2;count a 0;count b 10;", 0, 1);
        Due.is("b first", x.wrong(), 1);
        x.gone(1, 2);
        Due.is("a has one alone", x.wrong(), 2);
        x.gone(1, 0);
        Due.is("none GONE", x.wrong(), 0);
    }
}
