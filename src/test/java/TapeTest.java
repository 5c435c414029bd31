import java.lang.reflect.Constructor;
import java.lang.reflect.Field;
import java.lang.reflect.Method;
import java.lang.reflect.Modifier;
import java.util.Arrays;
import java.util.TreeSet;

/** Promises 1 to 3: the face, a new object, THE TAPE. */
public final class TapeTest {
    public static void main(String[] args) {
        face();
        newObject();
        tape();
        Due.finish();
    }

    private static void face() {
        TreeSet<String> methods = new TreeSet<>();
        for (Method m : TrouserSand.class.getDeclaredMethods()) {
            if (!Modifier.isPrivate(m.getModifiers())) {
                methods.add(m.getName() + m.getParameterCount() + m.getReturnType());
            }
        }
        String due = "feed5 end1 camp0 fault1 told1 run2 chance1 open1 shift2 tunnel2 boards0 lies1 carry3 had1 most1 "
            + "until0 keep1 take1 gone2 runners0 wrong0 kept2 needed2 second4 drift1 string4 right3 where2 up2 join2 "
            + "round2 morning0 order0 best1 goes2 list6 listed1 across3 count1";
        TreeSet<String> wanted = new TreeSet<>();
        for (String name : due.split(" ")) {
            wanted.add(name + "int");
        }
        Due.is("the methods " + methods, methods.equals(wanted) ? 1 : 0, 1);
        TreeSet<String> fields = new TreeSet<>();
        for (Field f : TrouserSand.class.getDeclaredFields()) {
            if (!Modifier.isPrivate(f.getModifiers())) {
                fields.add(f.getName());
            }
        }
        Due.is("the constants", fields.equals(new TreeSet<>(Arrays.asList("NONE", "RANGE", "FULL", "STATE"))) ? 1 : 0, 1);
        Constructor<?>[] made = TrouserSand.class.getDeclaredConstructors();
        Due.is("constructors", made.length, 1);
        Due.is("public", Modifier.isPublic(made[0].getModifiers()) ? 1 : 0, 1);
        Due.is("final", Modifier.isFinal(TrouserSand.class.getModifiers()) ? 1 : 0, 1);
        Due.is("NONE", TrouserSand.NONE, -1);
        Due.is("RANGE", TrouserSand.RANGE, -2);
        Due.is("FULL", TrouserSand.FULL, -3);
        Due.is("STATE", TrouserSand.STATE, -4);
    }

    private static void newObject() {
        TrouserSand x = new TrouserSand();
        int[] untold = {0, 0, 0, 200, 100, 10, 6, 200, 2, 60, 5, 0, 8, 4};
        for (int what = 0; what < untold.length; what++) {
            Due.is("told(" + what + ")", x.told(what), untold[what]);
        }
        for (int what = untold.length; what < 120; what++) {
            Due.is("told(" + what + ")", x.told(what), TrouserSand.NONE);
        }
        for (int what = 0; what < 8; what++) {
            Due.is("count(" + what + ")", x.count(what), 0);
        }
        Due.is("fault(0)", x.fault(0), 0);
        Due.is("fault(1)", x.fault(1), TrouserSand.NONE);
        Due.is("run(0, 0)", x.run(0, 0), TrouserSand.RANGE);
        Due.is("boards()", x.boards(), 0);
        Due.is("most(99)", x.most(99), 0);
        Due.is("until()", x.until(), 0);
        Due.is("runners()", x.runners(), 0);
        Due.is("wrong()", x.wrong(), 0);
        Due.is("take(0)", x.take(0), TrouserSand.STATE);
        Due.is("take(1)", x.take(1), TrouserSand.STATE);
        Due.is("where(0, 0)", x.where(0, 0), 0);
        Due.is("where(999, 2)", x.where(999, 2), 0);
        Due.is("drift(3)", x.drift(3), 0);
        Due.is("goes(0, 0)", x.goes(0, 0), TrouserSand.NONE);
        Due.is("listed(0)", x.listed(0), TrouserSand.NONE);
        Due.is("needed(3, 10)", x.needed(3, 10), 1);
    }

    private static void tape() {
        TrouserSand x = new TrouserSand();
        Due.is("end(0)", x.end(0), 0);
        Due.is("end(1)", x.end(1), TrouserSand.NONE);
        for (int n = 1; n <= 45; n++) {
            Due.is("feed " + n, x.feed(0x20202020, 0x20202020, 0x20202020, 0x20202020, 0x20202020), 20 * n);
        }
        Due.is("feed beyond 900", x.feed(0, 0, 0, 0, 0), TrouserSand.FULL);
        Due.is("count(7)", x.count(7), 900);
        Due.is("end(901)", x.end(901), TrouserSand.NONE);
        Due.is("end(-1)", x.end(-1), TrouserSand.NONE);
        Due.is("count(7)", x.count(7), 900);
        Due.is("end(900)", x.end(900), 900);
        Due.is("end(881)", x.end(881), 881);
        Due.is("feed at 881", x.feed(0, 0, 0, 0, 0), TrouserSand.FULL);
        Due.is("count(7)", x.count(7), 881);
        Due.is("end(880)", x.end(880), 880);
        Due.is("feed at 880", x.feed(0x20202020, 0x20202020, 0x20202020, 0x20202020, 0x20202020), 900);
        Due.is("camp() of blanks", x.camp(), 0);
        Due.is("count(7) behind camp()", x.count(7), 0);
        // The highest byte of an int comes first, and a sign bit is a byte's.
        Due.is("feed", x.feed(0x77696465, 0x20313030, 0x3b80ffff, 0, 0), 20);
        Due.is("end(9)", x.end(9), 9);
        Due.is("camp() of wide 100;", x.camp(), 1);
        Due.is("told(3)", x.told(3), 100);
        Due.is("feed", x.feed(0x77696465, 0x20313030, 0x3b80ffff, 0, 0), 20);
        Due.is("camp() with a byte that is none", x.camp(), TrouserSand.NONE);
        Due.is("fault(1)", x.fault(1), 9);
        Due.is("a faulty text is gone too", x.count(7), 0);
        Due.is("feed", x.feed(-1, -1, -1, -1, -1), 20);
        Due.is("order() of it", x.order(), TrouserSand.NONE);
        Due.is("order() empties it", x.count(7), 0);
        Due.is("a new text", Due.camp(x, "wood 7;"), 1);
        Due.is("told(4)", x.told(4), 7);
        Due.is("told(3)", x.told(3), 200);
    }
}
