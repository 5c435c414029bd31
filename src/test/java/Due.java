/** What the tests share: answers that are due, the sentence that is held to its word, and texts fed to THE TAPE. */
final class Due {
    private static final int NONE = TrouserSand.NONE;
    private static final int MOST_TOLD = 50;
    private static String sentence = "";
    private static int sentences = 0;
    private static int asked = 0;
    private static int wrong = 0;

    private Due() {
    }

    /** What is asked from here on holds these words of a promise; SentencesTest finds them in the document. */
    static void promise(int number, String words) {
        begin("Promise " + number + ", '" + words + "': ");
    }

    /** The same for the words of a Term, I to V. */
    static void term(String number, String words) {
        begin("Term " + number + ", '" + words + "': ");
    }

    private static void begin(String words) {
        sentence = words;
        sentences++;
    }

    static void is(String call, long got, long want) {
        asked++;
        if (got != want) {
            wrong++;
            if (wrong <= MOST_TOLD) {
                System.out.println(sentence + call + " answered " + got + ", due is " + want);
            }
        }
    }

    static void holds(String what, boolean so) {
        is(what, so ? 1 : 0, 1);
    }

    static void finish() {
        System.out.println(wrong == 0 ? sentences + " sentences, " + asked + " answers are as due"
            : wrong + " answers are not as due");
        if (wrong != 0) {
            System.exit(1);
        }
    }

    /** THE TAPE has just this text, whatever it had. */
    static int feed(TrouserSand x, String text) {
        x.end(0);
        int[] five = new int[5];
        for (int from = 0; from < text.length(); from += 20) {
            for (int i = 0; i < 5; i++) {
                five[i] = 0;
                for (int b = 0; b < 4; b++) {
                    int at = from + 4 * i + b;
                    five[i] = five[i] << 8 | (at < text.length() ? text.charAt(at) : 0);
                }
            }
            x.feed(five[0], five[1], five[2], five[3], five[4]);
        }
        return x.end(text.length());
    }

    static int camp(TrouserSand x, String text) {
        feed(x, text);
        return x.camp();
    }

    static TrouserSand withCamp(String text) {
        TrouserSand x = new TrouserSand();
        if (camp(x, text) < 0) {
            is("camp() of '" + text + "', fault(0)", x.fault(0), 0);
        }
        return x;
    }

    static int order(TrouserSand x, String text) {
        feed(x, text);
        return x.order();
    }

    /** The text must be a CAMP of so many clauses. */
    static TrouserSand good(String text, int clauses) {
        TrouserSand x = new TrouserSand();
        is("camp() of '" + text + "'", camp(x, text), clauses);
        is("fault(0) of '" + text + "'", x.fault(0), 0);
        return x;
    }

    /** The text must be refused with this KIND at this PLACE. */
    static void faulty(String text, int kind, int place) {
        TrouserSand x = new TrouserSand();
        is("camp() of '" + text + "'", camp(x, text), NONE);
        is("fault(0) of '" + text + "'", x.fault(0), kind);
        is("fault(1) of '" + text + "'", x.fault(1), place);
    }
}
