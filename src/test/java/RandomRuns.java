import java.util.ArrayList;
import java.util.Arrays;
import java.util.List;
import java.util.Random;

/**
 * Long runs of calls with seeded arguments, good and bad, on the class and on a slow model beside it that
 * was written from the document in another way (texts of signs, predicates for kinds, bodies by a table).
 */
public final class RandomRuns {
    private static final int NONE = -1000000, BAD = -1000001, FULL = -1000003;
    private static final int NULL = -1000011, PLACE = -1000012, KIND = -1000013, SIZE = -1000014, STORE = -1000015;
    private static final int RUNS = 3000, CALLS = 512, CALL_KINDS = 31;

    public static void main(String[] args) {
        int wrong = 0;
        int[] good = new int[CALL_KINDS];
        for (int run = 0; run < RUNS && wrong < 10; run++) {
            Random random = new Random(run);
            RiverRoad x = new RiverRoad();
            Model model = new Model();
            for (int i = 0; i < CALLS; i++) {
                int call = random.nextInt(CALL_KINDS);
                int[] a = arguments(random, call, model);
                i += NAMES[call].equals("fill") ? a.length - 3 : 0;
                if (i >= CALLS) {
                    break;
                }
                long want = model.answer(call, a);
                long got = answer(x, call, a);
                if (want > NONE) {
                    good[call]++;
                }
                if (got != want) {
                    wrong++;
                    System.out.println("run " + run + ", call " + i + ": " + NAMES[call] + Arrays.toString(a)
                        + " answered " + got + ", due is " + want);
                    break;
                }
            }
        }
        for (int call = 0; call < CALL_KINDS; call++) {
            if (good[call] < RUNS / 10) {
                wrong++;
                System.out.println(NAMES[call] + " was hardly ever called well: " + good[call]);
            }
        }
        System.out.println(wrong == 0 ? "all runs are as the model's" : wrong + " runs are not as the model's");
        if (wrong != 0) {
            System.exit(1);
        }
    }

    private static final String[] NAMES = {
        "sheet", "set", "copy", "drop", "row", "land", "strip", "nth", "turn", "mirror", "clear", "kind", "is", "as",
        "ask", "trace", "sign", "joined", "rank", "loops", "way", "lands", "unlike", "sum", "stamp", "clash", "folds",
        "nthFold", "count", "status", "fill",
    };

    private static long answer(RiverRoad x, int call, int[] a) {
        switch (NAMES[call]) {
            case "sheet": return x.sheet(a[0], a[1], a[2]);
            case "set": return x.set(a[0], a[1], a[2]);
            case "copy": return x.copy(a[0], a[1], a[2], a[3], a[4]);
            case "drop": return x.drop(a[0]);
            case "row": return x.row(a[0], a[1], a[2], a[3]);
            case "land": return x.land(a[0], a[1], a[2]);
            case "strip": return x.strip(a[0], a[1], a[2], a[3]);
            case "nth": return x.nth(a[0], a[1], a[2]);
            case "turn": return x.turn(a[0], a[1]);
            case "mirror": return x.mirror(a[0], a[1]);
            case "clear": return x.clear(a[0]);
            case "kind": return x.kind(a[0]);
            case "is": return x.is(a[0], a[1]);
            case "as": return x.as(a[0], a[1]);
            case "ask": return x.ask(a[0], a[1]);
            case "trace": return x.trace(a[0]);
            case "sign": return x.sign(a[0], a[1]);
            case "joined": return x.joined(a[0], a[1]);
            case "rank": return x.rank(a[0]);
            case "loops": return x.loops(a[0], a[1]);
            case "way": return x.way(a[0], a[1], a[2]);
            case "lands": return x.lands(a[0], a[1]);
            case "unlike": return x.unlike(a[0]);
            case "sum": return x.sum(a[0], a[1]);
            case "stamp": return x.stamp(a[0], a[1]);
            case "clash": return x.clash(a[0], a[1]);
            case "folds": return x.folds(a[0]);
            case "nthFold": return x.nthFold(a[0], a[1], a[2]);
            case "count": return x.count(a[0]);
            case "status": return x.status();
            default: break;
        }
        // "fill": sets ITEMS from a[1] on to the rest of a
        long last = 0;
        for (int i = 2; i < a.length; i++) {
            last = x.set(a[0], a[1] + i - 2, a[i]);
        }
        return last;
    }

    /** Mostly from 0 to most, now and then beside that, or far off. */
    private static int about(Random random, int least, int most) {
        int luck = random.nextInt(200);
        if (luck == 0) {
            return new int[] {Integer.MIN_VALUE, Integer.MAX_VALUE, -1000000, 1 << 30, -(1 << 30)}[random.nextInt(5)];
        }
        if (luck < 6) {
            return luck % 2 == 0 ? least - 1 : most + 1;
        }
        return least + random.nextInt(most - least + 1);
    }

    private static int place(Random random) {
        return about(random, 0, 9);
    }

    /** Often a place that has a THING of that KIND, if there is one. */
    private static int suited(Random random, Model model, int kind) {
        int place = random.nextInt(10);
        for (int i = 0; i < 10 && random.nextInt(20) > 0; i++) {
            int next = (place + i) % 10;
            if (Model.is(model.shelf[next], kind)) {
                return next;
            }
        }
        return place(random);
    }

    private static int sheet(Random random) {
        return random.nextInt(3) > 0 ? about(random, 0, 1) : about(random, 0, 7);
    }

    private static int size(Random random) {
        return random.nextInt(4) > 0 ? about(random, 1, 4) : about(random, 1, 20);
    }

    private static int[] arguments(Random r, int call, Model model) {
        switch (NAMES[call]) {
            case "sheet": return new int[] {sheet(r), about(r, 0, 2), r.nextInt(3) > 0 ? 60 : about(r, 0, 100)};
            case "set": return new int[] {sheet(r), about(r, 0, 60), r.nextInt(2) > 0 ? about(r, -3, 3) : r.nextInt()};
            case "copy": return new int[] {sheet(r), about(r, 0, 40), sheet(r), about(r, 0, 40), about(r, 0, 20)};
            case "drop": return new int[] {about(r, 0, 7)};
            case "row": return new int[] {place(r), sheet(r), r.nextInt(3) > 0 ? 0 : about(r, 0, 60), filled(r, model, size(r))};
            case "land": return new int[] {place(r), suited(r, model, 2), suited(r, model, 2)};
            case "strip": return new int[] {place(r), sheet(r), r.nextInt(3) > 0 ? 0 : about(r, 0, 60), filled(r, model, size(r))};
            case "nth": return nth(r);
            case "turn": return new int[] {place(r), suited(r, model, 2)};
            case "mirror": return new int[] {place(r), suited(r, model, r.nextInt(2) > 0 ? 2 : 5)};
            case "clear":
            case "kind": return new int[] {place(r)};
            case "rank": return new int[] {suited(r, model, 2)};
            case "is":
            case "as": return new int[] {place(r), about(r, 0, 8)};
            case "ask": return new int[] {place(r), about(r, 0, 2)};
            case "trace": return new int[] {about(r, 0, 4)};
            case "sign": return new int[] {suited(r, model, 1), about(r, 0, 7)};
            case "joined": return new int[] {suited(r, model, 2), about(r, 0, 7)};
            case "loops": return new int[] {suited(r, model, 5), about(r, -1, 7)};
            case "way": return new int[] {suited(r, model, 5), about(r, 0, 5), about(r, 0, 8)};
            case "lands": return new int[] {about(r, 1, 7), about(r, 0, 8)};
            case "unlike": return new int[] {about(r, 1, 5)};
            case "sum": return new int[] {about(r, 1, 7), about(r, -9, 9)};
            case "stamp": return new int[] {suited(r, model, 7), about(r, 0, 7)};
            case "clash": return new int[] {suited(r, model, 7), about(r, 0, 1)};
            case "folds": return new int[] {about(r, 1, 8)};
            case "nthFold": return new int[] {place(r), about(r, 1, 8), r.nextInt(2) > 0 ? about(r, 0, 20) : about(r, 0, 1400)};
            case "count": return new int[] {about(r, 0, 4)};
            case "status": return new int[0];
            default: return fill(r, model);
        }
    }

    private static int filled(Random r, Model model, int otherwise) {
        return r.nextInt(4) > 0 ? model.latestFill : otherwise;
    }

    private static int[] nth(Random r) {
        int n = r.nextInt(2) > 0 ? about(r, 2, 4) : about(r, 1, 12);
        int[] many = {1, 1, 2, 5, 14, 42, 132, 429, 1430, 4862, 16796, 58786, 208012};
        return new int[] {place(r), n, about(r, 0, n < 0 || n > 12 ? 5 : many[n] - 1)};
    }

    /** Signs of ARCHES, some signs, or an order of stamps, so that rows and strips are often good. */
    private static int[] fill(Random r, Model model) {
        int n = r.nextInt(4) > 0 ? 1 + r.nextInt(6) : 1 + r.nextInt(20);
        model.latestFill = n;
        int what = new int[] {0, 0, 1, 2, 2}[r.nextInt(5)];
        int[] a = new int[2 + (what == 2 ? n : 2 * n)];
        a[0] = r.nextInt(2);
        int plus = n;
        int minus = n;
        for (int i = 2; i < a.length; i++) {
            if (what == 0) {
                boolean up = plus > 0 && (plus == minus || r.nextInt(2) > 0);
                plus -= up ? 1 : 0;
                minus -= up ? 0 : 1;
                a[i] = (1 + r.nextInt(99)) * (up ? 1 : -1);
            } else if (what == 1) {
                a[i] = r.nextInt(2) * 2 - 1;
            } else {
                int swap = 2 + r.nextInt(i - 1);
                a[i] = a[swap];
                a[swap] = i - 2;
            }
        }
        return a;
    }

    // ---- the model

    private static final class Thing {
        String over = null;
        String under = null;
        int[] stamps = null;

        int n() {
            return stamps != null ? stamps.length : over.length() / 2;
        }
    }

    private static final class Model {
        private final int[][] items = new int[8][];
        private final int[] lanes = new int[8];
        private final Thing[] shelf = new Thing[10];
        private final List<Integer> trace = new ArrayList<>();
        private int status = 0;
        private int latestFill = 1;

        private static boolean out(int v, int least, int most) {
            return v < least || v > most;
        }

        long answer(int call, int[] a) {
            String name = NAMES[call];
            if (name.equals("fill")) {
                long last = 0;
                for (int i = 2; i < a.length; i++) {
                    last = noted(set(a[0], a[1] + i - 2, a[i]), false);
                }
                return last;
            }
            switch (name) {
                case "clear": return clear(a[0]);
                case "is": return out(a[0], 0, 9) || out(a[1], 0, 8) ? BAD : is(shelf[a[0]], a[1]) ? 1 : 0;
                case "trace": return a[0] >= 0 && a[0] < trace.size() ? trace.get(a[0]) : NONE;
                case "lands": return out(a[0], 1, 7) || a[1] < 0 ? BAD : lands(a[0], a[1]);
                case "unlike": return out(a[0], 1, 5) ? BAD : new int[] {1, 1, 2, 4, 14}[a[0] - 1];
                case "sum": return sum(a[0], a[1]);
                case "folds": return out(a[0], 1, 8) ? BAD : allFolds(a[0]).size();
                case "count": return count(a[0]);
                case "status": return status;
                case "set": return noted(set(a[0], a[1], a[2]), setWorked);
                default: return noted(withPlace(name, a), false);
            }
        }

        private int noted(int answer, boolean worked) {
            if (!worked && answer <= -1000011 && answer >= -1000015) {
                status = -1000010 - answer;
            } else if (worked || answer != BAD && answer != FULL) {
                status = 0;
            }
            return answer;
        }

        private int withPlace(String name, int[] a) {
            switch (name) {
                case "sheet": return sheet(a[0], a[1], a[2]);
                case "copy": return copy(a[0], a[1], a[2], a[3], a[4]);
                case "drop": return drop(a[0]);
                case "row": return row(a[0], a[1], a[2], a[3]);
                case "land": return land(a[0], a[1], a[2]);
                case "strip": return strip(a[0], a[1], a[2], a[3]);
                case "nth": return nth(a[0], a[1], a[2]);
                case "nthFold": return nthFold(a[0], a[1], a[2]);
                case "turn": return out(a[0], 0, 9) || out(a[1], 0, 9) ? BAD : turn(a[0], shelf[a[1]]);
                case "mirror": return out(a[0], 0, 9) || out(a[1], 0, 9) ? BAD : mirror(a[0], shelf[a[1]]);
                default: break;
            }
            if (out(a[0], 0, 9)
                || name.equals("as") && out(a[1], 0, 8)
                || name.equals("ask") && out(a[1], 0, 2)
                || name.equals("clash") && out(a[1], 0, 1)) {
                return BAD;
            }
            Thing thing = shelf[a[0]];
            if (name.equals("ask")) {
                trace.clear();
            }
            if (thing == null) {
                return NULL;
            }
            int[] needed = {0, 0, 1, 2, 2, 5, 5, 7, 7};
            String[] calls = {"kind", "ask", "sign", "joined", "rank", "loops", "way", "stamp", "clash"};
            int kind = name.equals("as") ? a[1] : needed[Arrays.asList(calls).indexOf(name)];
            return is(thing, kind) ? asked(name, thing, a) : KIND;
        }

        private int asked(String name, Thing thing, int[] a) {
            int n = thing.n();
            switch (name) {
                case "kind": return told(thing);
                case "as": return n;
                case "ask": return ask(thing, a[1]);
                case "sign": return out(a[1], 0, 2 * n - 1) ? BAD : thing.over.charAt(a[1]) == '+' ? 1 : -1;
                case "joined": return out(a[1], 0, 2 * n - 1) ? BAD : partner(thing.over, a[1]);
                case "rank": return n > 12 ? FULL : rank(thing.over);
                case "loops":
                    if (a[1] == -1) {
                        return loopStarts(thing).size();
                    }
                    return out(a[1], 0, 2 * n - 1) ? BAD : loopStarts(thing).indexOf(least(way(thing, a[1])));
                case "way":
                    if (out(a[1], 0, 2 * n - 1)) {
                        return BAD;
                    }
                    List<Integer> way = way(thing, a[1]);
                    return out(a[2], 0, way.size() - 1) ? NONE : way.get(a[2]);
                case "stamp": return out(a[1], 0, n - 1) ? BAD : thing.stamps[a[1]];
                default: return clash(thing.stamps, a[1]);
            }
        }

        // ---- sheets

        private int sheet(int sheet, int lane, int n) {
            if (out(sheet, 0, 7) || out(lane, 0, 2) || n > 100) {
                return BAD;
            }
            if (n < 0) {
                return SIZE;
            }
            items[sheet] = new int[n];
            lanes[sheet] = lane;
            return n;
        }

        private boolean setWorked = false;

        private int set(int sheet, int i, int v) {
            setWorked = false;
            if (out(sheet, 0, 7)) {
                return BAD;
            }
            if (items[sheet] == null) {
                return NULL;
            }
            if (out(i, 0, items[sheet].length - 1)) {
                return PLACE;
            }
            setWorked = true;
            int idle = new int[] {24, 16, 0}[lanes[sheet]];
            items[sheet][i] = v << idle >> idle;
            return items[sheet][i];
        }

        private boolean beyond(int sheet, long i, long n) {
            return i < 0 || n < 0 || i + n > items[sheet].length;
        }

        private int copy(int a, int i, int b, int j, int n) {
            if (out(a, 0, 7) || out(b, 0, 7)) {
                return BAD;
            }
            if (items[a] == null || items[b] == null) {
                return NULL;
            }
            if (lanes[a] != lanes[b]) {
                return STORE;
            }
            if (beyond(a, i, n) || beyond(b, j, n)) {
                return PLACE;
            }
            int[] ahead = items[a].clone();
            for (int k = 0; k < n; k++) {
                items[b][j + k] = ahead[i + k];
            }
            return n;
        }

        private int drop(int sheet) {
            if (out(sheet, 0, 7)) {
                return BAD;
            }
            if (items[sheet] == null) {
                return NULL;
            }
            int n = items[sheet].length;
            items[sheet] = null;
            return n;
        }

        // ---- things

        private int put(int place, Thing thing) {
            shelf[place] = thing;
            return told(thing);
        }

        private int putRow(int place, String signs) {
            Thing thing = new Thing();
            thing.over = signs;
            return put(place, thing);
        }

        private int row(int place, int sheet, int i, int n) {
            if (out(place, 0, 9) || out(sheet, 0, 7) || out(n, 1, 20)) {
                return BAD;
            }
            if (items[sheet] == null) {
                return NULL;
            }
            if (beyond(sheet, i, 2 * n)) {
                return PLACE;
            }
            String signs = "";
            for (int k = i; k < i + 2 * n; k++) {
                signs += items[sheet][k] > 0 ? "+" : items[sheet][k] < 0 ? "-" : "0";
            }
            return signs.contains("0") ? BAD : putRow(place, signs);
        }

        private int land(int place, int over, int under) {
            if (out(place, 0, 9) || out(over, 0, 9) || out(under, 0, 9)) {
                return BAD;
            }
            for (int of : new int[] {over, under}) {
                if (shelf[of] == null) {
                    return NULL;
                }
                if (!is(shelf[of], 2)) {
                    return KIND;
                }
            }
            if (shelf[over].n() != shelf[under].n()) {
                return BAD;
            }
            Thing thing = new Thing();
            thing.over = shelf[over].over;
            thing.under = shelf[under].over;
            return put(place, thing);
        }

        private int strip(int place, int sheet, int i, int n) {
            if (out(place, 0, 9) || out(sheet, 0, 7) || out(n, 1, 20)) {
                return BAD;
            }
            if (items[sheet] == null) {
                return NULL;
            }
            if (beyond(sheet, i, n)) {
                return PLACE;
            }
            Thing thing = new Thing();
            thing.stamps = Arrays.copyOfRange(items[sheet], i, i + n);
            int[] sorted = thing.stamps.clone();
            Arrays.sort(sorted);
            for (int k = 0; k < n; k++) {
                if (sorted[k] != k) {
                    return BAD;
                }
            }
            return put(place, thing);
        }

        private int nth(int place, int n, int i) {
            if (out(place, 0, 9) || out(n, 1, 12)) {
                return BAD;
            }
            return out(i, 0, allArches(n).size() - 1) ? NONE : putRow(place, allArches(n).get(i));
        }

        private int nthFold(int place, int n, int i) {
            if (out(place, 0, 9) || out(n, 1, 8)) {
                return BAD;
            }
            if (out(i, 0, allFolds(n).size() - 1)) {
                return NONE;
            }
            Thing thing = new Thing();
            thing.stamps = allFolds(n).get(i);
            return put(place, thing);
        }

        private int turn(int to, Thing thing) {
            if (thing == null || !is(thing, 2)) {
                return thing == null ? NULL : KIND;
            }
            char[] signs = thing.over.toCharArray();
            signs[partner(thing.over, 0)] = '+';
            return putRow(to, new String(signs).substring(1) + "-");
        }

        private static String mirrored(String signs) {
            return new StringBuilder(signs).reverse().toString().replace('+', '0').replace('-', '+').replace('0', '-');
        }

        private int mirror(int to, Thing thing) {
            if (thing == null || !is(thing, 2) && !is(thing, 5)) {
                return thing == null ? NULL : KIND;
            }
            Thing mirrored = new Thing();
            mirrored.over = mirrored(thing.over);
            mirrored.under = thing.under == null ? null : mirrored(thing.under);
            return put(to, mirrored);
        }

        private int clear(int place) {
            if (out(place, 0, 9)) {
                return BAD;
            }
            int had = shelf[place] != null ? 1 : 0;
            shelf[place] = null;
            return had;
        }

        // ---- kinds

        private static boolean areArches(String signs) {
            String left = signs;
            while (left.contains("+-")) {
                left = left.replace("+-", "");
            }
            return left.isEmpty();
        }

        private static int told(Thing thing) {
            int n = thing.n();
            if (thing.stamps != null) {
                return clash(thing.stamps, 0) == NONE ? 8 : 7;
            }
            if (thing.under != null) {
                return loopStarts(thing).size() == 1 ? 6 : 5;
            }
            if (thing.over.equals("+-".repeat(n))) {
                return 4;
            }
            if (thing.over.equals("+".repeat(n) + "-".repeat(n))) {
                return 3;
            }
            return areArches(thing.over) ? 2 : 1;
        }

        private static boolean is(Thing thing, int kind) {
            String[] too = {"", "10", "210", "3210", "4210", "50", "650", "70", "870"};
            return thing != null && too[told(thing)].contains("" + kind);
        }

        private static final String[][] BODIES = {
            {"10", "", "", "", "", "11", "", "", ""},
            {"", "20", "21", "22", "", "23", "24", "25", "26"},
            {"30", "", "31", "", "32", "", "", "", "33"},
        };

        private static final int[] ABOVE = {-1, 0, 1, 2, 2, 0, 5, 0, 7};

        private int ask(Thing thing, int what) {
            int kind = told(thing);
            while (BODIES[what][kind].isEmpty()) {
                kind = ABOVE[kind];
            }
            return body(thing, Integer.parseInt(BODIES[what][kind]));
        }

        private int body(Thing thing, int number) {
            trace.add(number);
            switch (number) {
                case 10: return thing.n();
                case 11: return 2 * body(thing, 10);
                case 20: return thing.over.length() - thing.over.replace("+", "").length();
                case 21: return (thing.over.length() - thing.over.replace("+-", "").length()) / 2;
                case 22: return body(thing, 21) + ask(thing, 0);
                case 23: return loopStarts(thing).size();
                case 24: return body(thing, 23) * ask(thing, 0);
                case 25: return find(thing.stamps, 0);
                case 26: return body(thing, 25) + 100;
                case 30: return ask(thing, 0) + 3;
                case 31: return 2 * body(thing, 30);
                case 32: return body(thing, 31) + ask(thing, 1);
                default: return body(thing, 30) - 1;
            }
        }

        // ---- arches and lands

        private static int partner(String signs, int p) {
            int step = signs.charAt(p) == '+' ? 1 : -1;
            int height = 0;
            int q = p;
            do {
                height += signs.charAt(q) == '+' ? 1 : -1;
                q += step;
            } while (height != 0);
            return q - step;
        }

        private static List<Integer> way(Thing thing, int p) {
            List<Integer> way = new ArrayList<>();
            int q = p;
            do {
                way.add(q);
                q = partner(way.size() % 2 == 1 ? thing.over : thing.under, q);
            } while (q != p);
            return way;
        }

        private static int least(List<Integer> way) {
            int least = way.get(0);
            for (int q : way) {
                least = Math.min(least, q);
            }
            return least;
        }

        private static List<Integer> loopStarts(Thing thing) {
            List<Integer> starts = new ArrayList<>();
            for (int p = 0; p < thing.over.length(); p++) {
                if (least(way(thing, p)) == p) {
                    starts.add(p);
                }
            }
            return starts;
        }

        private static final List<List<String>> ARCHES = new ArrayList<>();

        private static List<String> allArches(int n) {
            while (ARCHES.size() <= n) {
                ARCHES.add(newArches(ARCHES.size()));
            }
            return ARCHES.get(n);
        }

        /** The arch of crossing 0, what is within it, and what is behind it; then sorted: + sorts ahead of -. */
        private static List<String> newArches(int n) {
            List<String> all = new ArrayList<>();
            if (n == 0) {
                all.add("");
            }
            for (int within = 0; within < n; within++) {
                for (String inner : allArches(within)) {
                    for (String behind : allArches(n - 1 - within)) {
                        all.add("+" + inner + "-" + behind);
                    }
                }
            }
            all.sort(null);
            return all;
        }

        private static int rank(String signs) {
            return java.util.Collections.binarySearch(allArches(signs.length() / 2), signs);
        }

        private static final int[][] LANDS = new int[8][];

        private static int lands(int n, int k) {
            if (LANDS[n] == null) {
                LANDS[n] = new int[9];
                for (String over : allArches(n)) {
                    for (String under : allArches(n)) {
                        Thing thing = new Thing();
                        thing.over = over;
                        thing.under = under;
                        LANDS[n][loopStarts(thing).size()]++;
                    }
                }
            }
            return k > 8 ? 0 : LANDS[n][k];
        }

        private static long sum(int n, int q) {
            if (out(n, 1, 7) || out(q, -9, 9)) {
                return BAD;
            }
            long sum = 0;
            for (int k = 8; k >= 0; k--) {
                sum = sum * q + lands(n, k);
            }
            return sum;
        }

        // ---- strips

        private static int find(int[] order, int stamp) {
            int k = 0;
            while (order[k] != stamp) {
                k++;
            }
            return k;
        }

        private static boolean between(int[] order, int stamp, int i) {
            int at = find(order, stamp);
            return (at > find(order, i)) != (at > find(order, i + 1));
        }

        private static int clash(int[] order, int which) {
            for (int i = 0; i <= order.length - 2; i++) {
                for (int j = i + 1; j <= order.length - 2; j++) {
                    if ((j - i) % 2 == 0 && between(order, j, i) != between(order, j + 1, i)) {
                        return which == 0 ? i : j;
                    }
                }
            }
            return NONE;
        }

        private static final List<List<int[]>> FOLDS = new ArrayList<>();

        private static List<int[]> allFolds(int n) {
            while (FOLDS.size() <= n) {
                FOLDS.add(newFolds(FOLDS.size()));
            }
            return FOLDS.get(n);
        }

        /** The last stamp is put at every place of every fold of the others: a strip within a fold folds. */
        private static List<int[]> newFolds(int n) {
            List<int[]> all = new ArrayList<>();
            if (n == 0) {
                all.add(new int[0]);
                return all;
            }
            for (int[] shorter : allFolds(n - 1)) {
                for (int at = 0; at < n; at++) {
                    int[] order = new int[n];
                    for (int k = 0; k < n; k++) {
                        order[k] = k < at ? shorter[k] : k == at ? n - 1 : shorter[k - 1];
                    }
                    if (clash(order, 0) == NONE) {
                        all.add(order);
                    }
                }
            }
            all.sort(Arrays::compare);
            return all;
        }

        private int count(int what) {
            if (out(what, 0, 4)) {
                return BAD;
            }
            int many = 0;
            for (int i = 0; i < 10; i++) {
                if (what == 0) {
                    many += i < 8 && items[i] != null ? 1 : 0;
                } else {
                    many += is(shelf[i], new int[] {0, 0, 1, 5, 7}[what]) ? 1 : 0;
                }
            }
            return many;
        }
    }
}
