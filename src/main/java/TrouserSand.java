import java.util.Arrays;

/** A camp from which men dig; ../shared/DOC.md says what each call answers. */
public final class TrouserSand {
    public static final int NONE = -1;
    public static final int RANGE = -2;
    public static final int FULL = -3;
    public static final int STATE = -4;

    private static final int MOST_BYTES = 900;
    private static final int MOST_HUTS = 5;
    private static final int MOST_GARDENS = 4;
    private static final int MOST_LOOKS = 4;
    private static final int MOST_TUNNELS = 3;
    private static final int MOST_SLOTS = 2;
    private static final int MOST_DAYS = 99;
    private static final int MOST_SHIFTS = 400;
    private static final int LATEST_STEP = 999;
    private static final int NOWHERE = -1000000;

    private final Tape tape;
    private final Reader reader;
    private Camp now;
    private Camp spare;
    private final Digging digging;
    private final Digging[] slots;
    private final Flow flow;
    private final Counting counting;
    private final Looks looking;
    private final Strings strings;
    private final Night night;
    private final Lottery lottery;

    public TrouserSand() {
        tape = new Tape();
        now = new Camp();
        spare = new Camp();
        reader = new Reader(tape, spare);
        digging = new Digging();
        slots = new Digging[MOST_SLOTS];
        for (int i = 0; i < MOST_SLOTS; i++) {
            slots[i] = new Digging();
        }
        flow = new Flow();
        counting = new Counting();
        looking = new Looks();
        strings = new Strings();
        night = new Night();
        lottery = new Lottery();
    }

    public int feed(int a, int b, int c, int d, int e) {
        if (tape.length + 20 > MOST_BYTES) {
            return FULL;
        }
        tape.append(a);
        tape.append(b);
        tape.append(c);
        tape.append(d);
        tape.append(e);
        return tape.length;
    }

    public int end(int n) {
        if (n < 0 || n > tape.length) {
            return NONE;
        }
        tape.length = n;
        return n;
    }

    // ---- the camp

    public int camp() {
        boolean good = reader.readCamp(spare);
        tape.length = 0;
        if (!good) {
            return NONE;
        }
        Camp old = now;
        now = spare;
        spare = old;
        digging.clear();
        for (int i = 0; i < MOST_SLOTS; i++) {
            slots[i].inUse = false;
        }
        counting.clear();
        strings.clear();
        night.forgetRow();
        lottery.clear();
        return now.clauses;
    }

    public int fault(int what) {
        if (what == 0) {
            return reader.faultKind;
        }
        return what == 1 ? reader.faultPlace : NONE;
    }

    public int told(int what) {
        if (what < 0) {
            return NONE;
        }
        if (what < 20) {
            return now.general(what);
        }
        if (what < 60) {
            return now.ofHut(what / 10, what % 10);
        }
        if (what < 90) {
            return now.ofGarden(what / 10, what % 10);
        }
        return what - 90 < now.looks ? now.lookNumber[what - 90] : NONE;
    }

    public int run(int h, int o) {
        return isHut(h) && isHut(o) ? now.minutesBetween(h, o) : RANGE;
    }

    // ---- digging

    public int chance(int seed) {
        if (seed < 0) {
            return RANGE;
        }
        digging.luck.seed = seed;
        return 1;
    }

    public int open(int hut) {
        if (!isHut(hut)) {
            return RANGE;
        }
        return digging.tunnels < MOST_TUNNELS ? digging.begin(hut) : FULL;
    }

    public int shift(int tunnel, int men) {
        if (!isTunnel(tunnel) || !isWithin(men, 1, 99)) {
            return RANGE;
        }
        return digging.dig(now, tunnel, men);
    }

    public int tunnel(int t, int what) {
        return isTunnel(t) ? digging.ofTunnel(now, t, what) : RANGE;
    }

    public int boards() {
        return digging.boardsLeft(now);
    }

    public int lies(int hut) {
        return isHut(hut) ? digging.sand[hut] : RANGE;
    }

    public int carry(int hut, int garden, int n) {
        if (!isHut(hut) || !isGarden(garden) || !isWithin(n, 1, 9999)) {
            return RANGE;
        }
        return digging.walkOut(now, hut, garden, n);
    }

    public int had(int garden) {
        return isGarden(garden) ? digging.brought[garden] : RANGE;
    }

    public int most(int d) {
        return isWithin(d, 1, MOST_DAYS) ? digging.mostIn(now, flow, d) : RANGE;
    }

    public int until() {
        return digging.fewestDays(now, flow);
    }

    public int keep(int slot) {
        if (!isWithin(slot, 0, MOST_SLOTS - 1)) {
            return RANGE;
        }
        slots[slot].copyFrom(digging);
        slots[slot].inUse = true;
        return digging.allFeet();
    }

    public int take(int slot) {
        if (!isWithin(slot, 0, MOST_SLOTS - 1)) {
            return RANGE;
        }
        if (!slots[slot].inUse) {
            return STATE;
        }
        digging.copyFrom(slots[slot]);
        return digging.allFeet();
    }

    // ---- counts

    public int gone(int hut, int n) {
        if (!isHut(hut) || !isWithin(n, 0, now.hutMen[hut])) {
            return RANGE;
        }
        int before = counting.missing[hut];
        counting.missing[hut] = n;
        return before;
    }

    public int runners() {
        return counting.fewestRunners(now, flow);
    }

    public int wrong() {
        return counting.wrongOrders(now, flow);
    }

    // ---- looks

    public int kept(int looks, int d) {
        if (!areLooks(looks) || !isWithin(d, 0, MOST_SHIFTS)) {
            return RANGE;
        }
        looking.reckon(now, looks);
        return looking.afterDays[d];
    }

    public int needed(int feet, int m) {
        if (!isWithin(feet, 1, 999) || !isWithin(m, 0, 200)) {
            return RANGE;
        }
        return now.shiftsFor(feet, m);
    }

    public int second(int men, int feet, int looks, int what) {
        if (!isWithin(men, 1, 200) || !isWithin(feet, 1, 999)
                || !areLooks(looks) || !isWithin(what, 0, 1)) {
            return RANGE;
        }
        looking.reckon(now, looks);
        looking.divide(now, men, feet);
        return what == 0 ? looking.bestPart : looking.bestKept;
    }

    // ---- strings

    public int drift(int tenths) {
        if (!isWithin(tenths, 0, 20)) {
            return RANGE;
        }
        int before = strings.driftTenths;
        strings.driftTenths = tenths;
        return before;
    }

    public int string(int told, int feet, int heading, int slack) {
        if (!strings.mayTellAt(told) || !isWithin(feet, 1, 99)
                || !isWithin(heading, 0, 7) || !isWithin(slack, 0, 9)) {
            return RANGE;
        }
        return strings.add(told, feet, heading, slack);
    }

    public int right(int told, int k, int feet) {
        if (!strings.mayTellAt(told) || !isWithin(k, 0, strings.number - 1)
                || !isWithin(feet, 1, 99)) {
            return RANGE;
        }
        return strings.correct(told, k, feet);
    }

    public int where(int known, int what) {
        if (!isStep(known) || !isWithin(what, 0, 2)) {
            return NOWHERE;
        }
        if (what == 2) {
            return strings.offBy(known);
        }
        return what == 0 ? strings.along(known) : strings.toward(known);
    }

    public int up(int hut, int known) {
        if (!isHut(hut) || !isStep(known)) {
            return RANGE;
        }
        return strings.comesUp(now, hut, known);
    }

    // ---- the night

    public int join(int minutes, int bag) {
        if (!isWithin(minutes, 1, 20) || !isWithin(bag, 0, 1)) {
            return RANGE;
        }
        return night.addPerson(minutes + 3 * bag);
    }

    public int round(int from, int to) {
        if (from < 0 || to <= from || to > 600 || night.meetsRound(from, to)) {
            return RANGE;
        }
        return night.addRound(from, to);
    }

    public int morning() {
        int before = night.people;
        night.people = 0;
        night.rounds = 0;
        night.forgetRow();
        return before;
    }

    public int order() {
        int out = night.lastOut(tape);
        tape.length = 0;
        return out;
    }

    public int best(int t) {
        return isWithin(t, 0, 999) ? night.findBest(t) : RANGE;
    }

    public int goes(int i, int what) {
        if (!isWithin(i, 0, night.rowLength - 1) || !isWithin(what, 0, 1)) {
            return NONE;
        }
        return what == 0 ? night.row[i] : night.rowOut[i];
    }

    public int list(int seed, int n, int workers, int first, int speak, int then) {
        if (seed < 0 || !isWithin(n, 1, Lottery.MOST) || first < 0 || then < 0) {
            return RANGE;
        }
        int all = (1 << n) - 1;
        if ((workers & ~all) != 0 || (speak & ~all) != 0) {
            return RANGE;
        }
        int speakers = speak & ~workers;
        if (first > Integer.bitCount(workers) || then > Integer.bitCount(speakers)) {
            return NONE;
        }
        lottery.begin(seed, all);
        lottery.drawFrom(workers, first);
        lottery.drawFrom(speakers, then);
        lottery.drawFrom(all, n - first - then);
        return lottery.length;
    }

    public int listed(int i) {
        return isWithin(i, 0, lottery.length - 1) ? lottery.drawn[i] : NONE;
    }

    // ---- guards

    public int across(int feet, int spread, int what) {
        if (!isWithin(feet, 0, now.setting(Camp.WIDE)) || !isWithin(spread, 0, 200)
                || !isWithin(what, 0, 1)) {
            return RANGE;
        }
        int x = now.bestCrossing(feet, spread);
        return what == 0 ? x : now.metFrom(x, feet, spread);
    }

    public int count(int what) {
        switch (what) {
            case 0: return now.clauses;
            case 1: return digging.tunnels;
            case 2: return strings.number;
            case 3: return strings.corrections;
            case 4: return night.people;
            case 5: return night.rounds;
            case 6: return counting.allMissing();
            case 7: return tape.length;
            default: return NONE;
        }
    }

    private boolean isHut(int h) {
        return h >= 0 && h < now.huts;
    }

    private boolean isGarden(int g) {
        return g >= 0 && g < now.gardens;
    }

    private boolean isTunnel(int t) {
        return t >= 0 && t < digging.tunnels;
    }

    private boolean areLooks(int bits) {
        return bits >= 0 && bits < 1 << now.looks;
    }

    private static boolean isStep(int step) {
        return isWithin(step, 0, LATEST_STEP);
    }

    private static boolean isWithin(int n, int least, int greatest) {
        return n >= least && n <= greatest;
    }

    /** THE TAPE. */
    private static final class Tape {
        private final int[] bytes = new int[MOST_BYTES];
        private int length;

        void append(int four) {
            for (int shift = 24; shift >= 0 && length < MOST_BYTES; shift -= 8) {
                bytes[length] = four >>> shift & 255;
                length++;
            }
        }

        /** The byte at a place, or NONE beyond the last one. */
        int at(int place) {
            return place >= 0 && place < length ? bytes[place] : NONE;
        }
    }

    /** A CAMP as it was told, and what follows from its text alone. */
    private static final class Camp {
        private static final int WIDE = 3;
        private static final int WOOD = 4;
        private static final int SAND = 5;
        private static final int WALK = 6;
        private static final int REACH = 7;
        private static final int BOARD = 8;
        private static final int AIR = 9;
        private static final int PACE = 10;
        private static final int FALL = 11;
        private static final int BED_HAS = 12;
        private static final int BED_KEEPS = 13;
        private static final int UNTOLD_RUN = 5;
        // Numbered as told() numbers them; the first three are no settings.
        private static final int[] UNTOLD = {0, 0, 0, 200, 100, 10, 6, 200, 2, 60, 5, 0, 8, 4};

        private final int[] settings = new int[UNTOLD.length];
        private final boolean[] isTold = new boolean[UNTOLD.length];
        private final long[] hutNames = new long[MOST_HUTS];
        private final int[] hutX = new int[MOST_HUTS];
        private final int[] hutBack = new int[MOST_HUTS];
        private final int[] hutMen = new int[MOST_HUTS];
        private final int[] hutMinute = new int[MOST_HUTS];
        private final int[] runMinutes = new int[MOST_HUTS * MOST_HUTS];
        private final long[] gardenNames = new long[MOST_GARDENS];
        private final int[] gardenX = new int[MOST_GARDENS];
        private final int[] gardenDay = new int[MOST_GARDENS];
        private final int[] gardenAll = new int[MOST_GARDENS];
        private final long[] lookNames = new long[MOST_LOOKS];
        private final int[] lookNumber = new int[MOST_LOOKS];
        private int huts;
        private int gardens;
        private int looks;
        private int clauses;

        Camp() {
            clear();
        }

        void clear() {
            System.arraycopy(UNTOLD, 0, settings, 0, UNTOLD.length);
            for (int i = 0; i < UNTOLD.length; i++) {
                isTold[i] = false;
            }
            Arrays.fill(hutMinute, NONE);
            Arrays.fill(runMinutes, NONE);
            huts = 0;
            gardens = 0;
            looks = 0;
            clauses = 0;
        }

        int setting(int which) {
            return which >= 0 && which < UNTOLD.length ? settings[which] : 0;
        }

        boolean wasSet(int which) {
            return which >= 0 && which < UNTOLD.length && isTold[which];
        }

        void tellSetting(int which, int value) {
            if (which >= 0 && which < UNTOLD.length) {
                settings[which] = value;
                isTold[which] = true;
            }
        }

        void addHut(long name, int x, int back, int men) {
            if (huts < MOST_HUTS) {
                hutNames[huts] = name;
                hutX[huts] = x;
                hutBack[huts] = back;
                hutMen[huts] = men;
                huts++;
            }
        }

        void addGarden(long name, int x, int day, int all) {
            if (gardens < MOST_GARDENS) {
                gardenNames[gardens] = name;
                gardenX[gardens] = x;
                gardenDay[gardens] = day;
                gardenAll[gardens] = all;
                gardens++;
            }
        }

        void addLook(long name, int number) {
            if (looks < MOST_LOOKS) {
                lookNames[looks] = name;
                lookNumber[looks] = number;
                looks++;
            }
        }

        /** The number of a name among the first so many, or NONE. */
        static int indexOf(long[] names, int length, long name) {
            for (int i = 0; i < length && i < names.length; i++) {
                if (names[i] == name) {
                    return i;
                }
            }
            return NONE;
        }

        boolean hasRun(int h, int o) {
            return runMinutes[h * MOST_HUTS + o] != NONE;
        }

        void tellRun(int h, int o, int minutes) {
            runMinutes[h * MOST_HUTS + o] = minutes;
            runMinutes[o * MOST_HUTS + h] = minutes;
        }

        int minutesBetween(int h, int o) {
            if (h == o) {
                return 0;
            }
            return hasRun(h, o) ? runMinutes[h * MOST_HUTS + o] : UNTOLD_RUN;
        }

        int general(int what) {
            switch (what) {
                case 0: return huts;
                case 1: return gardens;
                case 2: return looks;
                default: return what >= WIDE && what < UNTOLD.length ? settings[what] : NONE;
            }
        }

        int ofHut(int kind, int h) {
            if (h < 0 || h >= huts) {
                return NONE;
            }
            switch (kind) {
                case 2: return hutX[h];
                case 3: return hutBack[h];
                case 4: return hutMen[h];
                default: return hutMinute[h];
            }
        }

        int ofGarden(int kind, int g) {
            if (g < 0 || g >= gardens) {
                return NONE;
            }
            switch (kind) {
                case 6: return gardenX[g];
                case 7: return gardenDay[g];
                default: return gardenAll[g];
            }
        }

        int allBoards() {
            int men = 0;
            for (int h = 0; h < huts; h++) {
                men += hutMen[h];
            }
            return men * Math.max(0, settings[BED_HAS] - settings[BED_KEEPS]);
        }

        boolean isInReach(int h, int g) {
            return Math.abs(gardenX[g] - hutX[h]) + hutBack[h] <= settings[REACH];
        }

        int pumpMen(int feet) {
            int air = settings[AIR];
            return air > 0 ? feet / air : 0;
        }

        /** What a SHIFT digs in a tunnel of so many feet, in tenths of feet. */
        int tenthsDug(int feet, int men) {
            return Math.max(0, men - pumpMen(feet)) * settings[PACE];
        }

        /** NEEDED, or NONE. */
        int shiftsFor(int feet, int men) {
            int tenths = 0;
            for (int shifts = 1; shifts <= MOST_SHIFTS; shifts++) {
                tenths += tenthsDug(tenths / 10, men);
                if (tenths / 10 >= feet) {
                    return shifts;
                }
            }
            return NONE;
        }

        /** The least x from which the guards meet the most. */
        int bestCrossing(int feet, int spread) {
            int best = 0;
            int bestSum = NONE;
            int last = settings[WIDE] - feet;
            for (int x = 0; x <= last; x++) {
                int sum = metFrom(x, feet, spread);
                if (sum > bestSum) {
                    best = x;
                    bestSum = sum;
                }
            }
            return best;
        }

        int metFrom(int x, int feet, int spread) {
            int sum = 0;
            for (int h = 0; h < huts; h++) {
                int from = Math.max(x, hutX[h] - spread);
                int to = Math.min(x + feet, hutX[h] + spread);
                sum += hutMen[h] * Math.max(0, to - from + 1);
            }
            return sum;
        }
    }

    /** Reads THE TAPE as a CAMP, TOKEN by TOKEN, up to its first FAULT. */
    private static final class Reader {
        private static final int BAD = 0;
        private static final int WORD = 1;
        private static final int NUMBER = 2;
        private static final int STOP = 3;
        private static final int CLOSE = 4;

        private static final int GOOD = 0;
        private static final int SYNTAX = 1;
        private static final int OUT_OF_BOUNDS = 2;
        private static final int TWICE = 3;
        private static final int ROOM = 4;
        private static final int UNKNOWN = 5;

        private static final int HUT = 0;
        private static final int GARDEN = 1;
        private static final int COUNT = 2;
        private static final int RUN = 3;
        private static final int LOOK = 4;
        private static final int BED = 5;
        private static final int FIRST_SETTING = 6;
        private static final int LONGEST_WORD = 8;
        private static final int LONGEST_NUMBER = 4;
        // Eight signs each, so that a keyword is found by its number.
        private static final String KEYWORDS =
            "hut     garden  count   run     look    bed     wide    wood    sand    walk    reach   board   air     pace    fall    ";
        private static final int[] WORDS = {1, 1, 1, 2, 1, 0, 0, 0, 0, 0, 0, 0, 0, 0, 0};
        private static final int[] NUMBERS = {3, 3, 1, 1, 1, 2, 1, 1, 1, 1, 1, 1, 1, 1, 1};
        // Of each keyword where the bounds of its numbers begin.
        private static final int[] BOUNDS_FROM = {0, 3, 6, 7, 8, 9, 11, 12, 13, 14, 15, 16, 17, 18, 19};
        private static final int[] LEAST = {0, 1, 1, 0, 0, 0, 0, 0, 0, 0, 0, 10, 0, 1, 1, 0, 0, 10, 1, 0};
        private static final int[] GREATEST = {
            400, 300, 40, 400, 999, 9999, 99, 60, 99, 20, 20, 400, 300, 99, 40, 700, 9, 200, 50, 50};

        private final long[] keywords = new long[WORDS.length];
        private final int[] numbers = new int[3];
        private final Tape text;
        private Camp target;
        private int faultKind;
        private int faultPlace = NONE;
        private int at;
        private int token;
        private int place;
        private long word;
        private int number;
        private int step;
        private int keyword;
        private long name;
        private int firstHut;
        private int secondHut;

        Reader(Tape tape, Camp camp) {
            text = tape;
            target = camp;
            for (int k = 0; k < keywords.length; k++) {
                keywords[k] = keywordCode(k * LONGEST_WORD);
            }
        }

        private static long keywordCode(int from) {
            long code = 0;
            for (int i = from; i < from + LONGEST_WORD && i < KEYWORDS.length(); i++) {
                if (isLetter(KEYWORDS.charAt(i))) {
                    code = withLetter(code, KEYWORDS.charAt(i));
                }
            }
            return code;
        }

        /** Eight letters of five bits each: words that differ have codes that differ. */
        private static long withLetter(long code, int letter) {
            return code * 32 + (letter - 'a' + 1);
        }

        private static boolean isLetter(int c) {
            return c >= 'a' && c <= 'z';
        }

        private static boolean isDigit(int c) {
            return c >= '0' && c <= '9';
        }

        /** Whether the text is a CAMP; the target is of no use if it isn't. */
        boolean readCamp(Camp camp) {
            target = camp;
            target.clear();
            at = 0;
            step = 0;
            keyword = 0;
            faultKind = GOOD;
            faultPlace = NONE;
            for (int tokens = 0; tokens <= MOST_BYTES; tokens++) {
                readToken();
                if (token == CLOSE && step == 0) {
                    return true;
                }
                int kind = acceptToken();
                if (kind != GOOD) {
                    faultKind = kind;
                    faultPlace = place;
                    return false;
                }
            }
            return false;
        }

        private void readToken() {
            skipBlanks();
            place = at;
            int c = text.at(at);
            if (isLetter(c)) {
                readWord();
            } else if (isDigit(c)) {
                readNumber();
            } else if (c == NONE) {
                token = CLOSE;
            } else {
                token = c == ';' ? STOP : BAD;
                at++;
            }
        }

        private void skipBlanks() {
            while (at < text.length && (text.at(at) == ' ' || text.at(at) == '\n')) {
                at++;
            }
        }

        private void readWord() {
            word = 0;
            for (; at < text.length && isLetter(text.at(at)); at++) {
                word = withLetter(word, text.at(at));
            }
            token = at - place > LONGEST_WORD ? BAD : WORD;
        }

        private void readNumber() {
            number = 0;
            for (; at < text.length && isDigit(text.at(at)); at++) {
                number = number * 10 + (text.at(at) - '0');
            }
            token = at - place > LONGEST_NUMBER ? BAD : NUMBER;
        }

        /** Takes the TOKEN where the clause stands: GOOD, or the KIND of FAULT. */
        private int acceptToken() {
            if (step == 0) {
                return acceptKeyword();
            }
            if (step <= WORDS[keyword]) {
                return acceptName();
            }
            int i = step - WORDS[keyword] - 1;
            if (i < NUMBERS[keyword]) {
                return acceptNumber(i);
            }
            if (token != STOP) {
                return SYNTAX;
            }
            applyClause();
            step = 0;
            return GOOD;
        }

        private int acceptKeyword() {
            int found = token == WORD ? Camp.indexOf(keywords, keywords.length, word) : NONE;
            if (found == NONE) {
                return SYNTAX;
            }
            keyword = found;
            step = 1;
            if (keyword >= BED && target.wasSet(settingOf(keyword))) {
                return TWICE;
            }
            return hasRoom() ? GOOD : ROOM;
        }

        private static int settingOf(int keyword) {
            return keyword == BED ? Camp.BED_HAS : keyword - FIRST_SETTING + Camp.WIDE;
        }

        private boolean hasRoom() {
            switch (keyword) {
                case HUT: return target.huts < MOST_HUTS;
                case GARDEN: return target.gardens < MOST_GARDENS;
                case LOOK: return target.looks < MOST_LOOKS;
                default: return true;
            }
        }

        private int acceptName() {
            if (token != WORD) {
                return SYNTAX;
            }
            step++;
            switch (keyword) {
                case HUT: return acceptNewName(target.hutNames, target.huts);
                case GARDEN: return acceptNewName(target.gardenNames, target.gardens);
                case LOOK: return acceptNewName(target.lookNames, target.looks);
                default: return acceptHutName();
            }
        }

        private int acceptNewName(long[] names, int length) {
            name = word;
            return Camp.indexOf(names, length, word) == NONE ? GOOD : TWICE;
        }

        private int acceptHutName() {
            int hut = Camp.indexOf(target.hutNames, target.huts, word);
            if (hut == NONE) {
                return UNKNOWN;
            }
            if (keyword == COUNT) {
                firstHut = hut;
                return target.hutMinute[hut] == NONE ? GOOD : TWICE;
            }
            // The step stands behind this name already: 2 behind the first of a run.
            if (step == 2) {
                firstHut = hut;
                return GOOD;
            }
            secondHut = hut;
            return hut == firstHut || target.hasRun(firstHut, hut) ? TWICE : GOOD;
        }

        private int acceptNumber(int i) {
            if (token != NUMBER || i < 0 || i >= numbers.length) {
                return SYNTAX;
            }
            int bound = BOUNDS_FROM[keyword] + i;
            if (number < LEAST[bound] || number > GREATEST[bound]) {
                return OUT_OF_BOUNDS;
            }
            numbers[i] = number;
            step++;
            return GOOD;
        }

        private void applyClause() {
            target.clauses++;
            switch (keyword) {
                case HUT:
                    target.addHut(name, numbers[0], numbers[1], numbers[2]);
                    break;
                case GARDEN:
                    target.addGarden(name, numbers[0], numbers[1], numbers[2]);
                    break;
                case COUNT:
                    target.hutMinute[firstHut] = numbers[0];
                    break;
                case RUN:
                    target.tellRun(firstHut, secondHut, numbers[0]);
                    break;
                case LOOK:
                    target.addLook(name, numbers[0]);
                    break;
                case BED:
                    target.tellSetting(Camp.BED_HAS, numbers[0]);
                    target.tellSetting(Camp.BED_KEEPS, numbers[1]);
                    break;
                default:
                    target.tellSetting(settingOf(keyword), numbers[0]);
                    break;
            }
        }
    }

    /** THE CHANCE. */
    private static final class Chance {
        private long seed = 1;

        int draw(int n) {
            seed = (1103515245L * seed + 12345L) % 2147483648L;
            return n > 0 ? (int) (seed / 65536L % n) : 0;
        }
    }

    /** The most that flows from some to others along the ways that there are. */
    private static final class Flow {
        private final int[] from = new int[MOST_HUTS];
        private final int[] to = new int[MOST_HUTS];
        // Of each one a bit for each other one to which there is a way.
        private final int[] ways = new int[MOST_HUTS];

        void clear() {
            Arrays.fill(from, 0);
            Arrays.fill(to, 0);
            Arrays.fill(ways, 0);
        }

        /** The greatest flow is the least cut: of all sets of those from whom it flows. */
        int greatest() {
            int least = cutBehind(0);
            for (int set = 1; set < 1 << MOST_HUTS; set++) {
                least = Math.min(least, cutBehind(set));
            }
            return least;
        }

        private int cutBehind(int set) {
            int reached = 0;
            int cut = 0;
            for (int i = 0; i < MOST_HUTS; i++) {
                if ((set >> i & 1) != 0) {
                    reached |= ways[i];
                } else {
                    cut += from[i];
                }
            }
            for (int i = 0; i < MOST_HUTS; i++) {
                if ((reached >> i & 1) != 0) {
                    cut += to[i];
                }
            }
            return cut;
        }
    }

    /** What digging changes: all that a SLOT keeps. */
    private static final class Digging {
        private final int[] home = new int[MOST_TUNNELS];
        private final int[] feet = new int[MOST_TUNNELS];
        private final int[] tenths = new int[MOST_TUNNELS];
        private final int[] shifts = new int[MOST_TUNNELS];
        private final int[] falls = new int[MOST_TUNNELS];
        private final int[] sand = new int[MOST_HUTS];
        private final int[] brought = new int[MOST_GARDENS];
        private final Chance luck = new Chance();
        private int tunnels;
        private int boardsUsed;
        private boolean inUse;

        /** THE CHANCE stays. */
        void clear() {
            tunnels = 0;
            boardsUsed = 0;
            Arrays.fill(sand, 0);
            Arrays.fill(brought, 0);
        }

        void copyFrom(Digging other) {
            System.arraycopy(other.home, 0, home, 0, MOST_TUNNELS);
            System.arraycopy(other.feet, 0, feet, 0, MOST_TUNNELS);
            System.arraycopy(other.tenths, 0, tenths, 0, MOST_TUNNELS);
            System.arraycopy(other.shifts, 0, shifts, 0, MOST_TUNNELS);
            System.arraycopy(other.falls, 0, falls, 0, MOST_TUNNELS);
            System.arraycopy(other.sand, 0, sand, 0, MOST_HUTS);
            System.arraycopy(other.brought, 0, brought, 0, MOST_GARDENS);
            luck.seed = other.luck.seed;
            tunnels = other.tunnels;
            boardsUsed = other.boardsUsed;
        }

        int begin(int hut) {
            if (tunnels >= MOST_TUNNELS) {
                return FULL;
            }
            home[tunnels] = hut;
            feet[tunnels] = 0;
            tenths[tunnels] = 0;
            shifts[tunnels] = 0;
            falls[tunnels] = 0;
            tunnels++;
            return tunnels - 1;
        }

        int dig(Camp camp, int t, int men) {
            int all = tenths[t] + camp.tenthsDug(feet[t], men);
            tenths[t] = all % 10;
            int dug = boarded(camp, all / 10);
            boardsUsed += dug * camp.setting(Camp.BOARD);
            sand[home[t]] += dug * camp.setting(Camp.SAND);
            shifts[t]++;
            int fall = camp.setting(Camp.FALL);
            if (fall > 0 && luck.draw(100) < fall) {
                falls[t]++;
            } else {
                feet[t] += dug;
            }
            return feet[t];
        }

        private int boarded(Camp camp, int dug) {
            int board = camp.setting(Camp.BOARD);
            return board > 0 ? Math.min(dug, boardsLeft(camp) / board) : dug;
        }

        int boardsLeft(Camp camp) {
            return camp.allBoards() - boardsUsed;
        }

        int ofTunnel(Camp camp, int t, int what) {
            switch (what) {
                case 0: return home[t];
                case 1: return feet[t];
                case 2: return tenths[t];
                case 3: return shifts[t];
                case 4: return falls[t];
                case 5: return camp.pumpMen(feet[t]);
                default: return RANGE;
            }
        }

        int allFeet() {
            int all = 0;
            for (int t = 0; t < tunnels; t++) {
                all += feet[t];
            }
            return all;
        }

        int walkOut(Camp camp, int hut, int garden, int n) {
            if (!camp.isInReach(hut, garden) || sand[hut] < n || roomLeft(camp, garden) < n) {
                return STATE;
            }
            sand[hut] -= n;
            brought[garden] += n;
            return sand[hut];
        }

        private int roomLeft(Camp camp, int garden) {
            return camp.gardenAll[garden] - brought[garden];
        }

        int mostIn(Camp camp, Flow flow, int days) {
            flow.clear();
            for (int h = 0; h < camp.huts; h++) {
                int walked = camp.hutMen[h] * camp.setting(Camp.WALK) * days;
                flow.from[h] = Math.min(sand[h], walked);
                for (int g = 0; g < camp.gardens; g++) {
                    if (camp.isInReach(h, g)) {
                        flow.ways[h] |= 1 << g;
                    }
                }
            }
            for (int g = 0; g < camp.gardens; g++) {
                flow.to[g] = Math.min(camp.gardenDay[g] * days, roomLeft(camp, g));
            }
            return flow.greatest();
        }

        int fewestDays(Camp camp, Flow flow) {
            int all = 0;
            for (int h = 0; h < camp.huts; h++) {
                all += sand[h];
            }
            if (all == 0) {
                return 0;
            }
            for (int days = 1; days <= MOST_DAYS; days++) {
                if (mostIn(camp, flow, days) == all) {
                    return days;
                }
            }
            return NONE;
        }
    }

    /** GONE, RUNNERS and WRONG ORDERS. */
    private static final class Counting {
        private static final int MOST_MISSING = 10;

        private final int[] missing = new int[MOST_HUTS];
        // The minutes of the order that is looked at; NONE: the HUT isn't counted.
        private final int[] minute = new int[MOST_HUTS];
        private final int[] counted = new int[MOST_HUTS];
        private final int[] ungiven = new int[MOST_HUTS];

        void clear() {
            Arrays.fill(missing, 0);
        }

        int allMissing() {
            int all = 0;
            for (int h = 0; h < MOST_HUTS; h++) {
                all += missing[h];
            }
            return all;
        }

        private int missingAtCounts(Camp camp) {
            int all = 0;
            for (int h = 0; h < camp.huts; h++) {
                all += camp.hutMinute[h] == NONE ? 0 : missing[h];
            }
            return all;
        }

        int fewestRunners(Camp camp, Flow flow) {
            int needed = missingAtCounts(camp);
            if (needed > MOST_MISSING) {
                return FULL;
            }
            System.arraycopy(camp.hutMinute, 0, minute, 0, MOST_HUTS);
            if (!canBeRight(camp, flow, needed)) {
                return NONE;
            }
            // Who stands for one may run on; each who can't be had so is a new runner.
            for (int h = 0; h < camp.huts; h++) {
                flow.from[h] = flow.to[h];
            }
            return needed - flow.greatest();
        }

        /** Of each HUT all its MEN can run on: those who are there and those who stand for others. */
        private boolean canBeRight(Camp camp, Flow flow, int needed) {
            flow.clear();
            for (int h = 0; h < camp.huts; h++) {
                if (minute[h] != NONE) {
                    flow.from[h] = camp.hutMen[h];
                    flow.to[h] = missing[h];
                    flow.ways[h] = waysFrom(camp, h);
                }
            }
            return flow.greatest() == needed;
        }

        private int waysFrom(Camp camp, int h) {
            int ways = 0;
            for (int o = 0; o < camp.huts; o++) {
                if (minute[o] != NONE && isLater(h, o)
                        && minute[o] - minute[h] >= camp.minutesBetween(h, o)) {
                    ways |= 1 << o;
                }
            }
            return ways;
        }

        private boolean isLater(int h, int o) {
            return minute[o] > minute[h] || minute[o] == minute[h] && o > h;
        }

        int wrongOrders(Camp camp, Flow flow) {
            int needed = missingAtCounts(camp);
            if (needed > MOST_MISSING) {
                return FULL;
            }
            int length = 0;
            int orders = 1;
            for (int h = 0; h < camp.huts; h++) {
                if (camp.hutMinute[h] != NONE) {
                    counted[length] = h;
                    length++;
                    orders *= length;
                }
            }
            Arrays.fill(minute, NONE);
            int wrong = 0;
            for (int order = 0; order < orders; order++) {
                giveMinutes(camp, length, order);
                if (!canBeRight(camp, flow, needed)) {
                    wrong++;
                }
            }
            return wrong;
        }

        /** The order's number, digit by digit, tells which of the minutes left each HUT is given. */
        private void giveMinutes(Camp camp, int length, int order) {
            for (int i = 0; i < length; i++) {
                ungiven[i] = camp.hutMinute[counted[i]];
            }
            int rest = order;
            for (int left = length; left > 0; left--) {
                int chosen = rest % left;
                rest /= left;
                minute[counted[left - 1]] = ungiven[chosen];
                ungiven[chosen] = ungiven[left - 1];
            }
        }
    }

    /** KEPT and SECOND. */
    private static final class Looks {
        private static final int SURE = 1000000;

        private final int[] afterDays = new int[MOST_SHIFTS + 1];
        private int bestPart;
        private int bestKept;

        /** KEPT of each number of days, by the LOOKS of these bits. */
        void reckon(Camp camp, int bits) {
            afterDays[0] = SURE;
            for (int d = 1; d < afterDays.length; d++) {
                int left = afterDays[d - 1];
                for (int l = 0; l < camp.looks; l++) {
                    if ((bits >> l & 1) != 0) {
                        left = left * (100 - camp.lookNumber[l]) / 100;
                    }
                }
                afterDays[d] = left;
            }
        }

        /** SECOND, by the days that were reckoned. */
        void divide(Camp camp, int men, int feet) {
            bestPart = 0;
            bestKept = NONE;
            for (int part = 0; part <= men / 2; part++) {
                long firstFound = SURE - keptUntilDug(camp, feet, men - part);
                long secondFound = SURE - keptUntilDug(camp, feet, part);
                int either = SURE - (int) (firstFound * secondFound / SURE);
                if (either > bestKept) {
                    bestPart = part;
                    bestKept = either;
                }
            }
        }

        private int keptUntilDug(Camp camp, int feet, int men) {
            int shifts = camp.shiftsFor(feet, men);
            return shifts == NONE ? 0 : afterDays[shifts];
        }
    }

    /** STRINGS and their puttings RIGHT, in the order in which they were told. */
    private static final class Strings {
        private static final int MOST = 16;
        private static final int MOST_CORRECTIONS = 20;
        private static final int[] ALONG = {10, 7, 0, -7, -10, -7, 0, 7};
        private static final int[] TOWARD = {0, 7, 10, 7, 0, -7, -10, -7};

        private final int[] toldAt = new int[MOST];
        private final int[] feet = new int[MOST];
        private final int[] heading = new int[MOST];
        private final int[] slack = new int[MOST];
        private final int[] times = new int[MOST];
        private final int[] correctedAt = new int[MOST_CORRECTIONS];
        private final int[] correctedString = new int[MOST_CORRECTIONS];
        private final int[] correctedFeet = new int[MOST_CORRECTIONS];
        private int number;
        private int corrections;
        private int latest;
        private int driftTenths;

        void clear() {
            number = 0;
            corrections = 0;
            latest = 0;
            driftTenths = 0;
        }

        boolean mayTellAt(int step) {
            return isStep(step) && step >= latest;
        }

        int add(int step, int length, int direction, int loose) {
            if (number >= MOST) {
                return FULL;
            }
            toldAt[number] = step;
            feet[number] = length;
            heading[number] = direction;
            slack[number] = loose;
            times[number] = 0;
            latest = step;
            number++;
            return number - 1;
        }

        int correct(int step, int k, int length) {
            if (corrections >= MOST_CORRECTIONS) {
                return FULL;
            }
            correctedAt[corrections] = step;
            correctedString[corrections] = k;
            correctedFeet[corrections] = length;
            corrections++;
            latest = step;
            times[k]++;
            return times[k];
        }

        private int feetKnown(int k, int known) {
            int length = feet[k];
            for (int i = 0; i < corrections; i++) {
                if (correctedString[i] == k && correctedAt[i] <= known) {
                    length = correctedFeet[i];
                }
            }
            return length;
        }

        int along(int known) {
            return sumOf(known, ALONG);
        }

        int toward(int known) {
            return sumOf(known, TOWARD);
        }

        private int sumOf(int known, int[] tenthsAFoot) {
            int sum = 0;
            for (int k = 0; k < number; k++) {
                if (toldAt[k] <= known) {
                    sum += feetKnown(k, known) * tenthsAFoot[heading[k]];
                }
            }
            return sum;
        }

        /** STEPS never fall: all that are ahead of a known STRING are known too. */
        int offBy(int known) {
            int sum = 0;
            for (int k = 0; k < number; k++) {
                if (toldAt[k] <= known) {
                    sum += 10 * slack[k] + driftTenths * k;
                }
            }
            return sum;
        }

        int comesUp(Camp camp, int hut, int known) {
            int middle = toward(known) - 10 * camp.hutBack[hut];
            int off = offBy(known);
            int wood = 10 * camp.setting(Camp.WOOD);
            if (middle + off <= 0) {
                return 0;
            }
            if (middle - off >= wood) {
                return 2;
            }
            return middle - off > 0 && middle + off < wood ? 1 : 3;
        }
    }

    /** THE NIGHT: PEOPLE, ROUNDS and the row that the latest best() found. */
    private static final class Night {
        private static final int MOST_PEOPLE = 8;
        private static final int MOST_ROUNDS = 5;
        private static final int SETS = 256;
        // Later than any who goes can be out.
        private static final int NEVER = 10000;

        private final int[] needs = new int[MOST_PEOPLE];
        private final int[] roundFrom = new int[MOST_ROUNDS];
        private final int[] roundTo = new int[MOST_ROUNDS];
        private final int[] row = new int[MOST_PEOPLE];
        private final int[] rowOut = new int[MOST_PEOPLE];
        // Of each set of PEOPLE when all are out at the earliest, in any order.
        private final int[] earliest = new int[SETS];
        // Of each set of PEOPLE when its first one must begin at the latest.
        private final int[] latest = new int[SETS];
        private int people;
        private int rounds;
        private int rowLength;

        void forgetRow() {
            rowLength = 0;
        }

        int addPerson(int minutes) {
            if (people >= MOST_PEOPLE) {
                return FULL;
            }
            needs[people] = minutes;
            people++;
            return people - 1;
        }

        boolean meetsRound(int from, int to) {
            return roundMet(from, to) != NONE;
        }

        int addRound(int from, int to) {
            if (rounds >= MOST_ROUNDS) {
                return FULL;
            }
            roundFrom[rounds] = from;
            roundTo[rounds] = to;
            rounds++;
            return rounds - 1;
        }

        /** The least ROUND that has one of these minutes, or NONE. */
        private int roundMet(int from, int to) {
            for (int r = 0; r < rounds; r++) {
                if (from < roundTo[r] && roundFrom[r] < to) {
                    return r;
                }
            }
            return NONE;
        }

        /** When one is out who may begin at a minute. */
        private int outFrom(int minute, int person) {
            int begin = minute;
            // Each time another ROUND is left behind.
            for (int tries = 0; tries < MOST_ROUNDS; tries++) {
                int met = roundMet(begin, begin + needs[person]);
                if (met != NONE) {
                    begin = roundTo[met];
                }
            }
            return begin + needs[person];
        }

        /** When one must begin at the latest to be out by a minute; below 0: he can't be. */
        private int beginBefore(int minute, int person) {
            int begin = minute - needs[person];
            for (int tries = 0; tries < MOST_ROUNDS; tries++) {
                int met = roundMet(begin, begin + needs[person]);
                if (met != NONE) {
                    begin = roundFrom[met] - needs[person];
                }
            }
            return begin;
        }

        int lastOut(Tape tape) {
            int gone = 0;
            int minute = 0;
            for (int i = 0; i < tape.length; i++) {
                int person = tape.at(i) - '0';
                if (person < 0 || person >= people || (gone >> person & 1) != 0) {
                    return NONE;
                }
                gone |= 1 << person;
                minute = outFrom(minute, person);
            }
            return minute;
        }

        int findBest(int limit) {
            reckonEarliest();
            int most = 0;
            int done = 0;
            for (int set = 1; set < 1 << people; set++) {
                int size = Integer.bitCount(set);
                boolean better = size > most || size == most && earliest[set] < done;
                if (earliest[set] <= limit && better) {
                    most = size;
                    done = earliest[set];
                }
            }
            reckonLatest(done);
            fillRow(most);
            return most;
        }

        private void reckonEarliest() {
            earliest[0] = 0;
            for (int set = 1; set < 1 << people; set++) {
                int least = NEVER;
                for (int p = 0; p < people; p++) {
                    if ((set >> p & 1) != 0) {
                        least = Math.min(least, outFrom(earliest[set & ~(1 << p)], p));
                    }
                }
                earliest[set] = least;
            }
        }

        private void reckonLatest(int done) {
            latest[0] = done;
            for (int set = 1; set < 1 << people; set++) {
                int greatest = NONE;
                for (int p = 0; p < people; p++) {
                    if ((set >> p & 1) != 0) {
                        greatest = Math.max(greatest, beginBefore(latest[set & ~(1 << p)], p));
                    }
                }
                latest[set] = greatest;
            }
        }

        /** The least row: at each place the least one behind whom the others can be done in time. */
        private void fillRow(int length) {
            int left = (1 << people) - 1;
            int minute = 0;
            rowLength = length;
            for (int i = 0; i < length && i < MOST_PEOPLE; i++) {
                // There is always one: the row's length was found by such rows.
                int person = Math.max(0, leastNext(left, minute, length - i - 1));
                minute = outFrom(minute, person);
                left &= ~(1 << person);
                row[i] = person;
                rowOut[i] = minute;
            }
        }

        private int leastNext(int left, int minute, int others) {
            for (int p = 0; p < people; p++) {
                if ((left >> p & 1) != 0
                        && canFollow(left & ~(1 << p), others, outFrom(minute, p))) {
                    return p;
                }
            }
            return NONE;
        }

        private boolean canFollow(int left, int size, int minute) {
            for (int set = 0; set < 1 << people; set++) {
                if ((set & ~left) == 0 && Integer.bitCount(set) == size && latest[set] >= minute) {
                    return true;
                }
            }
            return false;
        }
    }

    /** A LIST. */
    private static final class Lottery {
        private static final int MOST = 30;

        private final int[] drawn = new int[MOST];
        private final Chance luck = new Chance();
        private int undrawn;
        private int length;

        void clear() {
            length = 0;
        }

        void begin(int seed, int all) {
            luck.seed = seed;
            undrawn = all;
            length = 0;
        }

        void drawFrom(int group, int n) {
            for (int i = 0; i < n && length < MOST; i++) {
                int left = group & undrawn;
                int person = memberOf(left, luck.draw(Integer.bitCount(left)));
                drawn[length] = person;
                length++;
                undrawn &= ~(1 << person);
            }
        }

        /** Whose number has so many lower ones in the set. */
        private static int memberOf(int set, int lower) {
            int rest = set;
            for (int i = 0; i < lower; i++) {
                rest &= rest - 1;
            }
            return Integer.numberOfTrailingZeros(rest);
        }
    }
}
