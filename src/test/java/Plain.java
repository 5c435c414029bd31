import java.util.ArrayList;
import java.util.Arrays;
import java.util.HashMap;
import java.util.List;
import java.util.Map;
import java.util.regex.Matcher;
import java.util.regex.Pattern;

/** The whole document once more, slow and plain: what WholeModelTest holds the class to, call by call. */
final class Plain {
    private static final int NONE = -1;
    private static final int RANGE = -2;
    private static final int FULL = -3;
    private static final int STATE = -4;
    private static final List<String> SETTINGS = Arrays.asList("wide", "wood", "sand", "walk", "reach", "board", "air", "pace", "fall");
    private static final int WIDE = 3;
    private static final int WOOD = 4;
    private static final int SAND = 5;
    private static final int WALK = 6;
    private static final int REACH = 7;
    private static final int BOARD = 8;
    private static final int AIR = 9;
    private static final int PACE = 10;
    private static final int FALL = 11;

    /** What a SLOT keeps. */
    private static final class Dug {
        /** HUT, feet, tenths, SHIFTS, falls of each TUNNEL. */
        final List<int[]> tunnels = new ArrayList<>();
        int[] sand = new int[5];
        int[] had = new int[4];
        int used;
        long chance = 1;

        Dug copy() {
            Dug copy = new Dug();
            for (int[] t : tunnels) {
                copy.tunnels.add(t.clone());
            }
            copy.sand = sand.clone();
            copy.had = had.clone();
            copy.used = used;
            copy.chance = chance;
            return copy;
        }

        int feet() {
            return tunnels.stream().mapToInt(t -> t[1]).sum();
        }
    }

    private final StringBuilder tape = new StringBuilder();
    private int kind = 0;
    private int place = NONE;
    private int clauses = 0;
    private int[] setting = untold();
    /** x, back, MEN, minute. */
    private final List<int[]> huts = new ArrayList<>();
    /** x, ROOM a day, ROOM in all. */
    private final List<int[]> gardens = new ArrayList<>();
    private final List<Integer> looks = new ArrayList<>();
    private int[][] runs = new int[5][5];
    private Dug dug = new Dug();
    private final Dug[] slots = new Dug[2];
    private final int[] gone = new int[5];
    private int drift = 0;
    private int step = 0;
    /** STEP, STRING, feet, HEADING, slack; the last two NONE for a putting RIGHT. */
    private final List<int[]> tellings = new ArrayList<>();
    private final List<Integer> needs = new ArrayList<>();
    private final List<int[]> rounds = new ArrayList<>();
    private final List<int[]> row = new ArrayList<>();
    private final List<Integer> list = new ArrayList<>();

    private static int[] untold() {
        return new int[] {0, 0, 0, 200, 100, 10, 6, 200, 2, 60, 5, 0, 8, 4};
    }

    private static boolean in(int n, int least, int greatest) {
        return n >= least && n <= greatest;
    }

    int feed(int a, int b, int c, int d, int e) {
        if (tape.length() + 20 > 900) {
            return FULL;
        }
        for (int four : new int[] {a, b, c, d, e}) {
            for (byte one : java.nio.ByteBuffer.allocate(4).putInt(four).array()) {
                tape.append((char) (one & 255));
            }
        }
        return tape.length();
    }

    int end(int n) {
        if (!in(n, 0, tape.length())) {
            return NONE;
        }
        tape.setLength(n);
        return n;
    }

    int camp() {
        String text = tape.toString();
        tape.setLength(0);
        CampModelTest.Model model = new CampModelTest.Model(text);
        kind = model.kind;
        place = kind == 0 ? NONE : model.place;
        if (kind != 0) {
            return NONE;
        }
        clauses = model.clauses;
        tell(text);
        long chance = dug.chance;
        dug = new Dug();
        dug.chance = chance;
        Arrays.fill(slots, null);
        Arrays.fill(gone, 0);
        tellings.clear();
        drift = 0;
        step = 0;
        row.clear();
        list.clear();
        return clauses;
    }

    /** A text without a FAULT. */
    private void tell(String text) {
        setting = untold();
        huts.clear();
        gardens.clear();
        looks.clear();
        runs = new int[5][5];
        for (int[] of : runs) {
            Arrays.fill(of, 5);
        }
        Map<String, Integer> names = new HashMap<>();
        for (String clause : text.split(";")) {
            List<String> t = new ArrayList<>();
            Matcher m = Pattern.compile("[a-z]+|[0-9]+").matcher(clause);
            while (m.find()) {
                t.add(m.group());
            }
            if (!t.isEmpty()) {
                tellClause(t, names);
            }
        }
    }

    private void tellClause(List<String> t, Map<String, Integer> names) {
        int[] n = t.stream().filter(s -> s.matches("[0-9]+")).mapToInt(Integer::parseInt).toArray();
        switch (t.get(0)) {
            case "hut":
                names.put(t.get(1), huts.size());
                huts.add(new int[] {n[0], n[1], n[2], NONE});
                break;
            case "garden":
                gardens.add(n);
                break;
            case "count":
                huts.get(names.get(t.get(1)))[3] = n[0];
                break;
            case "run":
                runs[names.get(t.get(1))][names.get(t.get(2))] = n[0];
                runs[names.get(t.get(2))][names.get(t.get(1))] = n[0];
                break;
            case "look":
                looks.add(n[0]);
                break;
            case "bed":
                setting[12] = n[0];
                setting[13] = n[1];
                break;
            default:
                setting[3 + SETTINGS.indexOf(t.get(0))] = n[0];
                break;
        }
    }

    int fault(int what) {
        return what == 0 ? kind : what == 1 ? place : NONE;
    }

    int told(int what) {
        Map<Integer, Integer> all = new HashMap<>();
        for (int i = WIDE; i < setting.length; i++) {
            all.put(i, setting[i]);
        }
        all.put(0, huts.size());
        all.put(1, gardens.size());
        all.put(2, looks.size());
        for (int h = 0; h < huts.size(); h++) {
            for (int i = 0; i < 4; i++) {
                all.put(20 + 10 * i + h, huts.get(h)[i]);
            }
        }
        for (int g = 0; g < gardens.size(); g++) {
            for (int i = 0; i < 3; i++) {
                all.put(60 + 10 * i + g, gardens.get(g)[i]);
            }
        }
        for (int l = 0; l < looks.size(); l++) {
            all.put(90 + l, looks.get(l));
        }
        return all.getOrDefault(what, NONE);
    }

    private boolean isHut(int h) {
        return in(h, 0, huts.size() - 1);
    }

    int run(int h, int o) {
        return !isHut(h) || !isHut(o) ? RANGE : h == o ? 0 : runs[h][o];
    }

    int chance(int seed) {
        if (seed < 0) {
            return RANGE;
        }
        dug.chance = seed;
        return 1;
    }

    int open(int hut) {
        if (!isHut(hut)) {
            return RANGE;
        }
        if (dug.tunnels.size() == 3) {
            return FULL;
        }
        dug.tunnels.add(new int[] {hut, 0, 0, 0, 0});
        return dug.tunnels.size() - 1;
    }

    int shift(int tunnel, int men) {
        if (!in(tunnel, 0, dug.tunnels.size() - 1) || !in(men, 1, 99)) {
            return RANGE;
        }
        int[] t = dug.tunnels.get(tunnel);
        for (int man = t[1] / setting[AIR]; man < men; man++) {
            t[2] += setting[PACE];
        }
        int feet = 0;
        for (; t[2] >= 10; t[2] -= 10) {
            if (boards() >= setting[BOARD]) {
                dug.used += setting[BOARD];
                dug.sand[t[0]] += setting[SAND];
                feet++;
            }
        }
        t[3]++;
        if (setting[FALL] > 0) {
            dug.chance = (1103515245L * dug.chance + 12345L) & 0x7fffffffL;
            if ((dug.chance >> 16) % 100 < setting[FALL]) {
                t[4]++;
                feet = 0;
            }
        }
        t[1] += feet;
        return t[1];
    }

    int tunnel(int t, int what) {
        if (!in(t, 0, dug.tunnels.size() - 1) || !in(what, 0, 5)) {
            return RANGE;
        }
        int[] of = dug.tunnels.get(t);
        return what == 5 ? of[1] / setting[AIR] : of[what];
    }

    int boards() {
        int men = huts.stream().mapToInt(h -> h[2]).sum();
        return men * Math.max(0, setting[12] - setting[13]) - dug.used;
    }

    int lies(int hut) {
        return isHut(hut) ? dug.sand[hut] : RANGE;
    }

    private boolean reaches(int h, int g) {
        return Math.abs(huts.get(h)[0] - gardens.get(g)[0]) + huts.get(h)[1] <= setting[REACH];
    }

    int carry(int hut, int garden, int n) {
        if (!isHut(hut) || !in(garden, 0, gardens.size() - 1) || !in(n, 1, 9999)) {
            return RANGE;
        }
        if (!reaches(hut, garden) || n > dug.sand[hut] || n + dug.had[garden] > gardens.get(garden)[2]) {
            return STATE;
        }
        dug.had[garden] += n;
        dug.sand[hut] -= n;
        return dug.sand[hut];
    }

    int had(int garden) {
        return in(garden, 0, gardens.size() - 1) ? dug.had[garden] : RANGE;
    }

    int most(int d) {
        if (!in(d, 1, 99)) {
            return RANGE;
        }
        int[] from = new int[huts.size()];
        int[] to = new int[gardens.size()];
        boolean[][] way = new boolean[from.length][to.length];
        for (int h = 0; h < from.length; h++) {
            from[h] = Math.min(dug.sand[h], huts.get(h)[2] * setting[WALK] * d);
            for (int g = 0; g < to.length; g++) {
                to[g] = Math.min(gardens.get(g)[1] * d, gardens.get(g)[2] - dug.had[g]);
                way[h][g] = reaches(h, g);
            }
        }
        return Flow.greatest(from, to, way);
    }

    int until() {
        int all = Arrays.stream(dug.sand).sum();
        if (all == 0) {
            return 0;
        }
        // More days never take out less.
        if (most(99) < all) {
            return NONE;
        }
        int d = 1;
        while (most(d) < all) {
            d++;
        }
        return d;
    }

    int keep(int slot) {
        if (!in(slot, 0, 1)) {
            return RANGE;
        }
        slots[slot] = dug.copy();
        return dug.feet();
    }

    int take(int slot) {
        if (!in(slot, 0, 1)) {
            return RANGE;
        }
        if (slots[slot] == null) {
            return STATE;
        }
        dug = slots[slot].copy();
        return dug.feet();
    }

    int gone(int hut, int n) {
        if (!isHut(hut) || !in(n, 0, huts.get(hut)[2])) {
            return RANGE;
        }
        int before = gone[hut];
        gone[hut] = n;
        return before;
    }

    private int[] minutes() {
        return huts.stream().mapToInt(h -> h[3]).toArray();
    }

    private int goneAtCounts() {
        int all = 0;
        for (int h = 0; h < huts.size(); h++) {
            all += huts.get(h)[3] < 0 ? 0 : gone[h];
        }
        return all;
    }

    /** The most who can stand for others, if so many can go on from each HUT. */
    private int stand(int[] minutes, boolean others) {
        int n = minutes.length;
        int[] from = new int[n];
        int[] to = new int[n];
        boolean[][] way = new boolean[n][n];
        for (int h = 0; h < n; h++) {
            if (minutes[h] >= 0) {
                from[h] = others ? gone[h] : huts.get(h)[2];
                to[h] = gone[h];
                for (int o = 0; o < n; o++) {
                    boolean later = minutes[o] > minutes[h] || minutes[o] == minutes[h] && o > h;
                    way[h][o] = minutes[o] >= 0 && later && minutes[o] - minutes[h] >= runs[h][o];
                }
            }
        }
        return Flow.greatest(from, to, way);
    }

    int runners() {
        int all = goneAtCounts();
        if (all > 10) {
            return FULL;
        }
        return stand(minutes(), false) < all ? NONE : all - stand(minutes(), true);
    }

    int wrong() {
        int[] minutes = minutes();
        int[] counted = java.util.stream.IntStream.range(0, minutes.length).filter(h -> minutes[h] >= 0).toArray();
        return goneAtCounts() > 10 ? FULL : wrong(minutes.clone(), minutes, counted, 0, 0);
    }

    private int wrong(int[] given, int[] minutes, int[] counted, int i, int used) {
        if (i == counted.length) {
            return stand(given, false) < goneAtCounts() ? 1 : 0;
        }
        int wrong = 0;
        for (int j = 0; j < counted.length; j++) {
            if ((used & 1 << j) == 0) {
                given[counted[i]] = minutes[counted[j]];
                wrong += wrong(given, minutes, counted, i + 1, used | 1 << j);
            }
        }
        return wrong;
    }

    private int[] lookNumbers() {
        return looks.stream().mapToInt(Integer::intValue).toArray();
    }

    private boolean areLooks(int bits) {
        return in(bits, 0, (1 << looks.size()) - 1);
    }

    int kept(int bits, int d) {
        return areLooks(bits) && in(d, 0, 400) ? LooksModelTest.chance(lookNumbers(), bits, d) : RANGE;
    }

    int needed(int feet, int m) {
        return in(feet, 1, 999) && in(m, 0, 200) ? LooksModelTest.shifts(setting[AIR], setting[PACE], feet, m) : RANGE;
    }

    int second(int men, int feet, int bits, int what) {
        if (!in(men, 1, 200) || !in(feet, 1, 999) || !areLooks(bits) || !in(what, 0, 1)) {
            return RANGE;
        }
        int best = -1;
        int part = -1;
        for (int q = 0; 2 * q <= men; q++) {
            long a = LooksModelTest.chance(lookNumbers(), bits, needed(feet, men - q));
            long b = q == 0 ? 0 : LooksModelTest.chance(lookNumbers(), bits, needed(feet, q));
            int both = (int) (1000000 - (1000000 - a) * (1000000 - b) / 1000000);
            if (both > best) {
                best = both;
                part = q;
            }
        }
        return what == 0 ? part : best;
    }

    int drift(int tenths) {
        if (!in(tenths, 0, 20)) {
            return RANGE;
        }
        int before = drift;
        drift = tenths;
        return before;
    }

    private int strings() {
        return (int) tellings.stream().filter(t -> t[3] >= 0).count();
    }

    int string(int told, int feet, int heading, int slack) {
        if (!in(told, step, 999) || !in(feet, 1, 99) || !in(heading, 0, 7) || !in(slack, 0, 9)) {
            return RANGE;
        }
        if (strings() == 16) {
            return FULL;
        }
        step = told;
        tellings.add(new int[] {told, strings(), feet, heading, slack});
        return strings() - 1;
    }

    int right(int told, int k, int feet) {
        if (!in(told, step, 999) || !in(k, 0, strings() - 1) || !in(feet, 1, 99)) {
            return RANGE;
        }
        if (tellings.size() - strings() == 20) {
            return FULL;
        }
        step = told;
        tellings.add(new int[] {told, k, feet, NONE, NONE});
        return (int) tellings.stream().filter(t -> t[3] < 0 && t[1] == k).count();
    }

    int where(int known, int what) {
        if (!in(known, 0, 999) || !in(what, 0, 2)) {
            return -1000000;
        }
        int[][] tenths = {{10, 7, 0, -7, -10, -7, 0, 7}, {0, 7, 10, 7, 0, -7, -10, -7}};
        int sum = 0;
        int ahead = 0;
        for (int[] string : tellings) {
            if (string[3] < 0 || string[0] > known) {
                continue;
            }
            int feet = 0;
            for (int[] t : tellings) {
                feet = t[1] == string[1] && t[0] <= known ? t[2] : feet;
            }
            sum += what == 2 ? 10 * string[4] + drift * ahead : feet * tenths[what][string[3]];
            ahead++;
        }
        return sum;
    }

    int up(int hut, int known) {
        if (!isHut(hut) || !in(known, 0, 999)) {
            return RANGE;
        }
        int least = where(known, 1) - 10 * huts.get(hut)[1] - where(known, 2);
        int greatest = least + 2 * where(known, 2);
        int wood = 10 * setting[WOOD];
        return greatest <= 0 ? 0 : least >= wood ? 2 : least > 0 && greatest < wood ? 1 : 3;
    }

    int join(int minutes, int bag) {
        if (!in(minutes, 1, 20) || !in(bag, 0, 1)) {
            return RANGE;
        }
        if (needs.size() == 8) {
            return FULL;
        }
        needs.add(bag == 1 ? minutes + 3 : minutes);
        return needs.size() - 1;
    }

    private boolean[] closed() {
        boolean[] closed = new boolean[2000];
        for (int[] round : rounds) {
            Arrays.fill(closed, round[0], round[1], true);
        }
        return closed;
    }

    int round(int from, int to) {
        if (!in(from, 0, 600) || !in(to, 0, 600) || from >= to) {
            return RANGE;
        }
        boolean[] closed = closed();
        for (int m = from; m < to; m++) {
            if (closed[m]) {
                return RANGE;
            }
        }
        if (rounds.size() == 5) {
            return FULL;
        }
        rounds.add(new int[] {from, to});
        return rounds.size() - 1;
    }

    int morning() {
        int before = needs.size();
        needs.clear();
        rounds.clear();
        row.clear();
        return before;
    }

    private NightModelTest.Model night() {
        return new NightModelTest.Model(needs.stream().mapToInt(Integer::intValue).toArray(), closed());
    }

    int order() {
        String text = tape.toString();
        tape.setLength(0);
        if (text.chars().anyMatch(c -> !in(c - 48, 0, needs.size() - 1)) || text.chars().distinct().count() < text.length()) {
            return NONE;
        }
        int minute = 0;
        for (char c : text.toCharArray()) {
            minute = night().leaves(minute, needs.get(c - 48));
        }
        return minute;
    }

    int best(int t) {
        if (!in(t, 0, 999)) {
            return RANGE;
        }
        NightModelTest.Model model = night();
        model.find(t);
        row.clear();
        for (int i = 0; i < model.bestLength; i++) {
            row.add(new int[] {model.best[i], model.bestOut[i]});
        }
        return row.size();
    }

    int goes(int i, int what) {
        return in(i, 0, row.size() - 1) && in(what, 0, 1) ? row.get(i)[what] : NONE;
    }

    int list(int seed, int n, int workers, int first, int speak, int then) {
        if (seed < 0 || !in(n, 1, 30) || !in(workers, 0, (1 << n) - 1) || !in(speak, 0, (1 << n) - 1) || first < 0 || then < 0) {
            return RANGE;
        }
        int speakers = speak & ~workers;
        if (first > Integer.bitCount(workers) || then > Integer.bitCount(speakers)) {
            return NONE;
        }
        list.clear();
        List<Integer> left = new ArrayList<>();
        for (int p = 0; p < n; p++) {
            left.add(p);
        }
        long[] s = {seed};
        ListModelTest.draw(s, left, list, workers, first);
        ListModelTest.draw(s, left, list, speakers, then);
        ListModelTest.draw(s, left, list, (1 << n) - 1, n - first - then);
        return n;
    }

    int listed(int i) {
        return in(i, 0, list.size() - 1) ? list.get(i) : NONE;
    }

    int across(int feet, int spread, int what) {
        if (!in(feet, 0, setting[WIDE]) || !in(spread, 0, 200) || !in(what, 0, 1)) {
            return RANGE;
        }
        int best = -1;
        int where = -1;
        for (int x = 0; x + feet <= setting[WIDE]; x++) {
            int sum = 0;
            for (int[] h : huts) {
                for (int f = x; f <= x + feet; f++) {
                    sum += in(f, h[0] - spread, h[0] + spread) ? h[2] : 0;
                }
            }
            if (sum > best) {
                best = sum;
                where = x;
            }
        }
        return what == 0 ? where : best;
    }

    int count(int what) {
        int[] all = {clauses, dug.tunnels.size(), strings(), tellings.size() - strings(), needs.size(), rounds.size(),
            Arrays.stream(gone).sum(), tape.length()};
        return in(what, 0, 7) ? all[what] : NONE;
    }
}
