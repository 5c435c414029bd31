/** Promises 39 and 40, and what Term V says of THE GUARDS. */
public final class GuardsTest {
    private static final int NONE = TrouserSand.NONE;
    private static final int RANGE = TrouserSand.RANGE;
    private static final int LEAST = Integer.MIN_VALUE;
    private static final int GREATEST = Integer.MAX_VALUE;

    public static void main(String[] args) {
        fromX();
        eachFoot();
        beyondIsLost();
        bothEnds();
        overHuts();
        leastX();
        across();
        acrossRange();
        count();
        Due.finish();
    }

    private static void is(TrouserSand x, int feet, int spread, int from, int sum) {
        Due.is("across(" + feet + ", " + spread + ", 0)", x.across(feet, spread, 0), from);
        Due.is("across(" + feet + ", " + spread + ", 1)", x.across(feet, spread, 1), sum);
    }

    private static void fromX() {
        Due.term("V", "from x on, so many feet along the wire (0 .. wide less these)");
        // The HUT at the very end of the wire: the last x that there is.
        TrouserSand x = Due.withCamp("hut a 50 1 4;wide 50;");
        is(x, 0, 0, 50, 4);
        is(x, 10, 0, 40, 4);
        is(x, 49, 0, 1, 4);
        is(x, 50, 0, 0, 4);
        x = Due.withCamp("hut a 0 1 4;wide 50;");
        is(x, 0, 0, 0, 4);
        is(x, 50, 0, 0, 4);
        x = Due.withCamp("hut a 400 1 4;wide 400;");
        is(x, 0, 0, 400, 4);
        x = Due.withCamp("hut a 200 1 4;");
        is(x, 0, 0, 200, 4);
    }

    private static void eachFoot() {
        Due.term("V", "at each foot from its x less SPREAD to its x and SPREAD, all alike likely");
        TrouserSand x = Due.withCamp("hut a 100 1 3;");
        is(x, 0, 0, 100, 3);
        is(x, 0, 5, 95, 3);
        is(x, 1, 5, 95, 6);
        is(x, 10, 5, 95, 33);
        is(x, 11, 5, 94, 33);
        is(x, 9, 5, 95, 30);
        is(x, 200, 5, 0, 33);
    }

    private static void beyondIsLost() {
        Due.term("V", "those beyond 0 .. wide are lost");
        TrouserSand x = Due.withCamp("hut a 3 1 2;wide 50;");
        is(x, 50, 5, 0, 18);
        is(x, 50, 200, 0, 102);
        x = Due.withCamp("hut a 48 1 2;wide 50;");
        is(x, 50, 5, 0, 16);
        is(x, 7, 5, 43, 16);
        x = Due.withCamp("hut a 60 1 2;wide 50;");
        is(x, 50, 9, 0, 0);
        is(x, 50, 10, 0, 2);
        is(x, 0, 10, 50, 2);
        x = Due.withCamp("hut a 400 1 40;wide 10;");
        is(x, 10, 200, 0, 0);
        x = Due.withCamp("hut a 210 1 40;wide 10;");
        is(x, 10, 200, 0, 40);
    }

    private static void bothEnds() {
        Due.term("V", "how many of these feet it meets (x to x and the length, both ends too)");
        TrouserSand x = Due.withCamp("hut a 10 1 4;hut b 30 1 3;wide 50;");
        is(x, 20, 0, 10, 7);
        is(x, 19, 0, 0, 4);
        is(x, 0, 0, 10, 4);
    }

    private static void overHuts() {
        Due.term("V", "the sum over HUTS of MEN times how many of these feet it meets");
        TrouserSand x = Due.withCamp("hut a 10 1 4;hut b 12 1 3;hut c 12 1 2;wide 50;");
        is(x, 0, 0, 12, 5);
        is(x, 0, 1, 11, 9);
        is(x, 2, 0, 10, 9);
        x = Due.withCamp("hut a 200 1 40;hut b 200 1 40;hut c 200 1 40;hut d 200 1 40;hut e 200 1 40;wide 400;");
        is(x, 400, 200, 0, 401 * 200);
        is(new TrouserSand(), 200, 200, 0, 0);
        is(new TrouserSand(), 0, 0, 0, 0);
    }

    private static void leastX() {
        Due.term("V", "the greatest; the least x of alike ones");
        TrouserSand x = Due.withCamp("hut a 10 1 4;hut b 30 1 4;wide 50;");
        is(x, 0, 0, 10, 4);
        is(x, 15, 0, 0, 4);
        x = Due.withCamp("hut a 30 1 4;hut b 10 1 4;wide 50;");
        is(x, 0, 0, 10, 4);
        x = Due.withCamp("hut a 10 1 4;hut b 30 1 5;wide 50;");
        is(x, 0, 0, 30, 5);
        is(x, 15, 0, 15, 5);
    }

    private static void across() {
        Due.promise(39, "THE GUARDS dig across so many feet (0 .. wide), SPREAD 0 .. 200, what 0: x, 1: the sum");
        TrouserSand x = Due.withCamp("hut a 10 20 4;hut b 30 20 3;wide 50;");
        is(x, 0, 0, 10, 4);
        is(x, 50, 200, 0, 51 * 7);
        is(x, 3, 200, 0, 4 * 7);
        x = Due.withCamp("wide 10;");
        is(x, 10, 0, 0, 0);
        x = Due.withCamp("wide 400;");
        is(x, 400, 0, 0, 0);
    }

    private static void acrossRange() {
        Due.promise(39, "RANGE");
        TrouserSand x = Due.withCamp("hut a 10 20 4;wide 50;");
        int[] lengths = {LEAST, -1, 51, 400, GREATEST};
        for (int feet : lengths) {
            Due.is("across(" + feet + ", 0, 0)", x.across(feet, 0, 0), RANGE);
        }
        int[] spreads = {LEAST, -1, 201, GREATEST};
        for (int spread : spreads) {
            Due.is("across(0, " + spread + ", 0)", x.across(0, spread, 0), RANGE);
        }
        int[] others = {LEAST, -1, 2, GREATEST};
        for (int what : others) {
            Due.is("across(0, 0, " + what + ")", x.across(0, 0, what), RANGE);
        }
        x = new TrouserSand();
        Due.is("wide is 200: across(201, 0, 0)", x.across(201, 0, 0), RANGE);
        Due.is("wide is 200: across(200, 0, 0)", x.across(200, 0, 0), 0);
    }

    private static void count() {
        Due.promise(40, "What 0: clauses of the CAMP, 1: TUNNELS, 2: STRINGS, 3: puttings RIGHT, 4: PEOPLE of THE NIGHT, 5: ROUNDS");
        TrouserSand x = Due.withCamp("hut a 0 1 4;hut b 0 1 5;count a 3;");
        int[] due = {3, 0, 0, 0, 0, 0, 0, 0};
        counts(x, due);
        x.open(0);
        x.open(1);
        due[1] = 2;
        counts(x, due);
        x.string(0, 1, 0, 0);
        x.string(0, 1, 0, 0);
        x.string(0, 1, 0, 0);
        due[2] = 3;
        counts(x, due);
        x.right(0, 1, 2);
        x.right(0, 1, 2);
        x.right(0, 1, 2);
        x.right(0, 2, 2);
        due[3] = 4;
        counts(x, due);
        for (int i = 0; i < 5; i++) {
            x.join(1, 0);
        }
        due[4] = 5;
        counts(x, due);
        x.round(3, 4);
        due[5] = 1;
        counts(x, due);
        Due.promise(40, "6: all who are GONE");
        x.gone(0, 3);
        x.gone(1, 4);
        due[6] = 7;
        counts(x, due);
        Due.promise(40, "7: bytes of THE TAPE");
        x.feed(0, 0, 0, 0, 0);
        due[7] = 20;
        counts(x, due);
        x.end(9);
        due[7] = 9;
        counts(x, due);
        Due.promise(40, "NONE for others.");
        int[] others = {LEAST, -1, 8, 9, GREATEST};
        for (int what : others) {
            Due.is("count(" + what + ")", x.count(what), NONE);
        }
    }

    private static void counts(TrouserSand x, int[] due) {
        for (int what = 0; what < due.length; what++) {
            Due.is("count(" + what + ")", x.count(what), due[what]);
        }
    }
}
