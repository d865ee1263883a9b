import java.io.IOException;
import java.nio.file.Files;
import java.nio.file.Path;
import java.util.ArrayList;
import java.util.List;
import java.util.Map;
import java.util.Set;
import java.util.TreeMap;
import java.util.TreeSet;
import java.util.regex.Matcher;
import java.util.regex.Pattern;

/**
 * Each sentence of the document that names a boundary has a test of its own here, on a new object, under the
 * sentence's own words. That no sentence of a promise is left out, and that all words are the document's, is
 * looked up in ../shared/DOC.md.
 */
public final class Boundaries {
    private static final int NONE = -1000000, BAD = -1000001, FULL = -1000003;
    private static final int NULL = -1000011, PLACE = -1000012, KIND = -1000013, SIZE = -1000014, STORE = -1000015;
    private static final int LEAST = Integer.MIN_VALUE, MOST = Integer.MAX_VALUE;

    private static final int TERMS = 0, PROMISES = 31;
    private static final int[] NO_PLACES = {LEAST, -1, 10, MOST};
    private static final int[] NO_SHEETS = {LEAST, -1, 8, MOST};
    private static final int[] ARCHES_OF = {1, 2, 5, 14, 42, 132, 429, 1430, 4862, 16796, 58786, 208012};
    private static final int[] FOLDS_OF = {1, 2, 6, 16, 50, 144, 462, 1392};

    /** The places of shelf(): each but the last two has the KIND of its number, 0 is empty. */
    private static final int EMPTY = 0, ROW = 1, ARCHES = 2, NEST = 3, PEAKS = 4, LAND = 5, LOOP = 6, STRIP = 7;
    private static final int FOLD = 8, ONE_ARCH = 9;

    private static RiverRoad x = new RiverRoad();
    private static String sentence = "";
    private static int wrong = 0;
    private static int tests = 0;
    private static final Map<Integer, Set<String>> TESTED = new TreeMap<>();

    private static void test(int promise, String words, Runnable calls) {
        x = new RiverRoad();
        tests++;
        sentence = (promise == TERMS ? "terms" : "promise " + promise) + ", '" + words + "'";
        TESTED.computeIfAbsent(promise, none -> new TreeSet<>()).add(words);
        calls.run();
    }

    private static void due(String call, long got, long want) {
        if (got != want) {
            wrong++;
            System.out.println(sentence + ": " + call + " answered " + got + ", due is " + want);
        }
    }

    public static void main(String[] args) throws IOException {
        terms();
        termsOfRows();
        termsOfLandsAndStrips();
        termsOfOrder();
        termsOfAsks();
        newObject();
        sheets();
        copies();
        rows();
        lands();
        strips();
        nths();
        turns();
        mirrors();
        kinds();
        asks();
        signsAndJoins();
        ranks();
        loops();
        ways();
        counted();
        stampsAndClashes();
        folds();
        counts();
        statuses();
        lookUp(Path.of("../shared/DOC.md"));
        int sentences = TESTED.values().stream().mapToInt(Set::size).sum();
        System.out.println(tests + " tests of " + sentences + " sentences, " + wrong + " answers are not as due");
        if (wrong != 0) {
            System.exit(1);
        }
    }

    // ---- what tests begin with

    private static void items(int sheet, int lane, int... values) {
        due("sheet", x.sheet(sheet, lane, values.length), values.length);
        for (int i = 0; i < values.length; i++) {
            due("set", x.set(sheet, i, values[i]), values[i]);
        }
    }

    private static int row(int place, String signs) {
        int[] values = new int[signs.length()];
        for (int i = 0; i < values.length; i++) {
            values[i] = signs.charAt(i) == '+' ? 1 : -1;
        }
        items(7, 0, values);
        return x.row(place, 7, 0, values.length / 2);
    }

    private static int strip(int place, int... stamps) {
        items(7, 0, stamps);
        return x.strip(place, 7, 0, stamps.length);
    }

    private static int[] upTo(int n) {
        int[] stamps = new int[n];
        for (int k = 0; k < n; k++) {
            stamps[k] = k;
        }
        return stamps;
    }

    /** A place for each KIND; the SHEETS 1 (bytes), 2 (ints) and 7 are there. */
    private static void shelf() {
        row(ROW, "-+");
        row(ARCHES, "++-+--");
        row(NEST, "++--");
        row(PEAKS, "+-+-");
        x.land(LAND, NEST, NEST);
        x.land(LOOP, NEST, PEAKS);
        strip(STRIP, 0, 2, 1, 3);
        strip(FOLD, 1, 0);
        x.nth(ONE_ARCH, 1, 0);
        items(1, 0, 2, 0, 1);
        items(2, 2, 1, 0, 2, 3);
    }

    private static void dueSigns(int place, String signs) {
        for (int p = 0; p < signs.length(); p++) {
            due("sign(" + place + ", " + p + ") of " + signs, x.sign(place, p), signs.charAt(p) == '+' ? 1 : -1);
        }
        due("the end of " + signs, x.sign(place, signs.length()), BAD);
    }

    private static void dueJoined(int place, int... partners) {
        for (int p = 0; p < partners.length; p++) {
            due("joined(" + place + ", " + p + ")", x.joined(place, p), partners[p]);
        }
        due("the end of what is joined", x.joined(place, partners.length), BAD);
    }

    private static void dueStamps(int place, int... stamps) {
        for (int k = 0; k < stamps.length; k++) {
            due("stamp(" + place + ", " + k + ")", x.stamp(place, k), stamps[k]);
        }
        due("the end of the strip", x.stamp(place, stamps.length), BAD);
    }

    private static void dueTrace(int... numbers) {
        for (int i = 0; i < 18; i++) {
            due("trace(" + i + ")", x.trace(i), i < numbers.length ? numbers[i] : NONE);
        }
    }

    // ---- terms

    private static void terms() {
        test(TERMS, "NONE = -1000000, BAD = -1000001, STATE = -1000002, FULL = -1000003", () -> {
            due("NONE", RiverRoad.NONE, NONE);
            due("BAD", RiverRoad.BAD, BAD);
            due("STATE", RiverRoad.STATE, -1000002);
            due("FULL", RiverRoad.FULL, FULL);
        });
        test(TERMS, "An object is used for at most 512 calls after it has been made", () -> {
            row(0, "+++-+---+-".repeat(4));
            x.land(1, 0, 0);
            int calls = 43;
            for (; calls < 511; calls++) {
                due("call " + calls, x.mirror(1, 1), 5);
            }
            due("the 512-th call", x.way(1, 8, 1), 9);
        });
        test(TERMS, "Numbers go from 0 on", () -> {
            due("sheet 0, lane 0", x.sheet(0, 0, 2), 2);
            due("item 0", x.set(0, 0, 1), 1);
            x.set(0, 1, -1);
            due("place 0", x.row(0, 0, 0, 1), 4);
            due("crossing 0", x.sign(0, 0), 1);
            due("ask 0", x.ask(0, 0), 1);
            due("trace 0", x.trace(0), 10);
            due("kind 0", x.is(0, 0), 1);
            due("rank 0", x.rank(0), 0);
            due("loop 0", x.land(1, 0, 0) == 6 ? x.loops(1, 1) : BAD, 0);
        });
        test(TERMS, "the first of these that fits: BAD (a number is not as told; there is no such thing), STATE, "
            + "FULL (as told), then FINDINGS, of several the first in time", () -> {
            x.sheet(1, 1, 1);
            x.sheet(2, 2, 1);
            due("BAD lane, SIZE", x.sheet(0, 3, -1), BAD);
            due("BAD sheet, NULL", x.copy(8, 0, 0, 0, 0), BAD);
            due("BAD place, NULL", x.row(10, 0, 0, 1), BAD);
            due("BAD n, PLACE", x.strip(0, 1, 9, 21), BAD);
            due("BAD kind, NULL", x.as(0, 9), BAD);
            due("BAD ask, NULL", x.ask(0, 3), BAD);
            due("BAD which, NULL", x.clash(0, 2), BAD);
            due("NULL, PLACE", x.set(0, -1, 0), NULL);
            due("NULL, STORE, PLACE", x.copy(0, -1, 1, 0, 0), NULL);
            due("STORE, PLACE", x.copy(1, -1, 2, 0, 0), STORE);
            due("NULL, then BAD", x.sign(0, -1), NULL);
        });
        test(TERMS, "-1000010 less 1 NULL (a SHEET that is missing, a place of THE SHELF that is empty), "
            + "2 PLACE (no such place of a SHEET), 3 KIND (a THING that is not that), 4 SIZE (fewer than none), "
            + "5 STORE (SHEETS of two LANES)", () -> {
            shelf();
            due("a sheet that is missing", x.drop(0), -1000011);
            due("a place that is empty", x.kind(0), -1000011);
            due("no such place of a sheet", x.set(1, 3, 0), -1000012);
            due("a thing that is not that", x.as(FOLD, 6), -1000013);
            due("fewer than none", x.sheet(0, 0, -1), -1000014);
            due("sheets of two lanes", x.copy(1, 0, 2, 0, 1), -1000015);
        });
        for (Refused refused : REFUSED) {
            test(TERMS, "What is refused, or found, changes nothing but status() (and THE TRACE, by ask())",
                () -> dueUnchanged(refused));
        }
        test(TERMS, "SHEETS 0 .. 7 are missing (at first), or have a LANE (0 bytes, 1 shorts, 2 ints) "
            + "and 0 to 100 ITEMS, 0 at first", () -> {
            for (int sheet = 0; sheet < 8; sheet++) {
                due("missing at first", x.set(sheet, 0, 0), NULL);
                due("sheets are there", x.count(0), sheet);
                due("a sheet", x.sheet(sheet, sheet % 3, sheet * 14), sheet * 14);
            }
            due("a sheet of 100", x.sheet(1, 1, 100), 100);
            for (int i = 0; i < 100; i++) {
                due("0 at first", x.strip(0, 1, i, 1), 8);
            }
            for (int sheet = 0; sheet < 8; sheet++) {
                due("each with its own items", x.drop(sheet), sheet == 1 ? 100 : sheet * 14);
            }
        });
        test(TERMS, "THE SHELF has places 0 .. 9, each empty (at first) or with a THING", () -> {
            for (int place = 0; place < 10; place++) {
                due("empty at first", x.kind(place), NULL);
                due("things are there", x.count(1), place);
                due("a thing", x.nth(place, place + 1, 0), place == 0 ? 4 : 3);
            }
            for (int place = 0; place < 10; place++) {
                due("each with its own thing", x.as(place, 2), place + 1);
            }
        });
        test(TERMS, "THINGS never change", () -> {
            shelf();
            items(1, 0, 1, 1, -1, -1);
            x.row(0, 1, 0, 2);
            items(2, 2, 2, 0, 1);
            x.strip(9, 2, 0, 3);
            for (int i = 0; i < 3; i++) {
                x.set(1, i, -1);
                x.set(2, i, 7);
            }
            x.drop(1);
            dueSigns(0, "++--");
            dueStamps(9, 2, 0, 1);
            x.land(5, 0, 0);
            x.mirror(6, 5);
            x.turn(0, 0);
            due("a land whose arches are turned now", x.loops(5, -1), 2);
            x.clear(0);
            due("a land whose arches are gone", x.way(5, 0, 1), 3);
            x.clear(5);
            due("a mirrored land whose land is gone", x.way(6, 0, 1), 3);
        });
        test(TERMS, "THINGS never change", () -> {
            x.nthFold(0, 8, 0);
            x.nthFold(1, 8, 1391);
            x.nthFold(2, 8, 1392);
            dueStamps(0, upTo(8));
            x.nth(3, 8, 0);
            x.nth(4, 8, 1429);
            dueSigns(3, "+".repeat(8) + "-".repeat(8));
            x.land(5, 3, 4);
            x.land(6, 4, 4);
            due("a land, behind another one", x.loops(5, -1), 4);
        });
    }

    // ---- what is refused

    private interface Call {
        long on(RiverRoad y);
    }

    private record Refused(String told, long answer, Call call) {
    }

    private static final List<Refused> REFUSED = new ArrayList<>();

    private static void refused(String told, long answer, Call call) {
        REFUSED.add(new Refused(told, answer, call));
    }

    static {
        refused("sheet BAD sheet", BAD, y -> y.sheet(8, 2, 1));
        refused("sheet BAD lane", BAD, y -> y.sheet(1, 3, 1));
        refused("sheet BAD n", BAD, y -> y.sheet(1, 2, 101));
        refused("sheet SIZE", SIZE, y -> y.sheet(1, 2, -1));
        refused("set BAD", BAD, y -> y.set(-1, 0, 3));
        refused("set NULL", NULL, y -> y.set(0, 0, 3));
        refused("set PLACE", PLACE, y -> y.set(1, 3, 3));
        refused("copy BAD", BAD, y -> y.copy(2, 0, 8, 0, 1));
        refused("copy NULL a", NULL, y -> y.copy(0, 0, 1, 0, 1));
        refused("copy NULL b", NULL, y -> y.copy(1, 0, 0, 0, 1));
        refused("copy STORE", STORE, y -> y.copy(2, 0, 1, 0, 1));
        refused("copy PLACE of a", PLACE, y -> y.copy(2, 3, 2, 0, 2));
        refused("copy PLACE of b", PLACE, y -> y.copy(2, 0, 2, 3, 2));
        refused("copy PLACE n", PLACE, y -> y.copy(2, 2, 2, 2, -1));
        refused("drop BAD", BAD, y -> y.drop(8));
        refused("drop NULL", NULL, y -> y.drop(0));
        refused("row BAD place", BAD, y -> y.row(10, 1, 0, 1));
        refused("row BAD sheet", BAD, y -> y.row(2, 8, 0, 1));
        refused("row BAD n", BAD, y -> y.row(2, 1, 0, 0));
        refused("row NULL", NULL, y -> y.row(2, 0, 0, 1));
        refused("row PLACE", PLACE, y -> y.row(2, 2, 3, 1));
        refused("row BAD item", BAD, y -> y.row(2, 2, 0, 1));
        refused("land BAD place", BAD, y -> y.land(10, NEST, PEAKS));
        refused("land NULL over", NULL, y -> y.land(NEST, EMPTY, PEAKS));
        refused("land NULL under", NULL, y -> y.land(NEST, NEST, EMPTY));
        refused("land KIND over", KIND, y -> y.land(NEST, ROW, NEST));
        refused("land KIND under", KIND, y -> y.land(NEST, NEST, FOLD));
        refused("land BAD unlike n", BAD, y -> y.land(NEST, NEST, ARCHES));
        refused("strip BAD place", BAD, y -> y.strip(10, 1, 0, 1));
        refused("strip BAD sheet", BAD, y -> y.strip(2, 8, 0, 1));
        refused("strip BAD n", BAD, y -> y.strip(2, 1, 0, 21));
        refused("strip NULL", NULL, y -> y.strip(2, 0, 0, 1));
        refused("strip PLACE", PLACE, y -> y.strip(2, 1, 0, 4));
        refused("strip BAD items", BAD, y -> y.strip(2, 1, 0, 2));
        refused("nth BAD place", BAD, y -> y.nth(10, 3, 0));
        refused("nth BAD n", BAD, y -> y.nth(2, 13, 0));
        refused("nth NONE", NONE, y -> y.nth(2, 3, 5));
        refused("nth NONE below 0", NONE, y -> y.nth(2, 3, -1));
        refused("turn BAD", BAD, y -> y.turn(2, 10));
        refused("turn NULL", NULL, y -> y.turn(2, EMPTY));
        refused("turn KIND", KIND, y -> y.turn(2, LAND));
        refused("mirror BAD", BAD, y -> y.mirror(2, 10));
        refused("mirror NULL", NULL, y -> y.mirror(2, EMPTY));
        refused("mirror KIND", KIND, y -> y.mirror(2, ROW));
        refused("clear BAD", BAD, y -> y.clear(10));
        refused("kind BAD", BAD, y -> y.kind(10));
        refused("kind NULL", NULL, y -> y.kind(EMPTY));
        refused("is BAD place", BAD, y -> y.is(10, 0));
        refused("is BAD kind", BAD, y -> y.is(1, 9));
        refused("as BAD", BAD, y -> y.as(1, 9));
        refused("as NULL", NULL, y -> y.as(EMPTY, 0));
        refused("as KIND", KIND, y -> y.as(ROW, 2));
        refused("ask BAD place", BAD, y -> y.ask(10, 0));
        refused("ask BAD what", BAD, y -> y.ask(1, 3));
        refused("ask NULL", NULL, y -> y.ask(EMPTY, 0));
        refused("trace NONE", NONE, y -> y.trace(5));
        refused("sign BAD place", BAD, y -> y.sign(10, 0));
        refused("sign NULL", NULL, y -> y.sign(EMPTY, 0));
        refused("sign KIND", KIND, y -> y.sign(LAND, 0));
        refused("sign BAD p", BAD, y -> y.sign(ROW, 2));
        refused("joined BAD place", BAD, y -> y.joined(10, 0));
        refused("joined NULL", NULL, y -> y.joined(EMPTY, 0));
        refused("joined KIND", KIND, y -> y.joined(ROW, 0));
        refused("joined BAD p", BAD, y -> y.joined(NEST, 4));
        refused("rank BAD", BAD, y -> y.rank(10));
        refused("rank NULL", NULL, y -> y.rank(EMPTY));
        refused("rank KIND", KIND, y -> y.rank(ROW));
        refused("loops BAD place", BAD, y -> y.loops(10, 0));
        refused("loops NULL", NULL, y -> y.loops(EMPTY, 0));
        refused("loops KIND", KIND, y -> y.loops(NEST, 0));
        refused("loops BAD p", BAD, y -> y.loops(LOOP, 4));
        refused("way BAD place", BAD, y -> y.way(10, 0, 0));
        refused("way NULL", NULL, y -> y.way(EMPTY, 0, 0));
        refused("way KIND", KIND, y -> y.way(NEST, 0, 0));
        refused("way BAD p", BAD, y -> y.way(LOOP, 4, 0));
        refused("way NONE", NONE, y -> y.way(LOOP, 0, 4));
        refused("way NONE, back early", NONE, y -> y.way(LAND, 0, 2));
        refused("way NONE below 0", NONE, y -> y.way(LOOP, 0, -1));
        refused("lands BAD", BAD, y -> y.lands(8, 0));
        refused("unlike BAD", BAD, y -> y.unlike(6));
        refused("sum BAD", BAD, y -> y.sum(8, 0));
        refused("stamp BAD place", BAD, y -> y.stamp(10, 0));
        refused("stamp NULL", NULL, y -> y.stamp(EMPTY, 0));
        refused("stamp KIND", KIND, y -> y.stamp(NEST, 0));
        refused("stamp BAD k", BAD, y -> y.stamp(FOLD, 2));
        refused("clash BAD place", BAD, y -> y.clash(10, 0));
        refused("clash BAD which", BAD, y -> y.clash(STRIP, 2));
        refused("clash NULL", NULL, y -> y.clash(EMPTY, 0));
        refused("clash KIND", KIND, y -> y.clash(NEST, 0));
        refused("clash NONE", NONE, y -> y.clash(FOLD, 0));
        refused("folds BAD", BAD, y -> y.folds(9));
        refused("nthFold BAD place", BAD, y -> y.nthFold(10, 3, 0));
        refused("nthFold BAD n", BAD, y -> y.nthFold(2, 9, 0));
        refused("nthFold NONE", NONE, y -> y.nthFold(2, 3, 6));
        refused("nthFold NONE below 0", NONE, y -> y.nthFold(2, 3, -1));
        refused("count BAD", BAD, y -> y.count(5));
    }

    /** All that x can tell of itself; what it is asked behind this is free, as SHEETS are dropped. */
    private static List<Long> told() {
        List<Long> all = new ArrayList<>();
        for (int what = 0; what < 5; what++) {
            all.add((long) x.count(what));
        }
        for (int place = 0; place < 10; place++) {
            all.add((long) x.kind(place));
            all.add((long) x.as(place, 0));
            for (int p = 0; p < 4; p++) {
                all.add((long) x.sign(place, p));
                all.add((long) x.way(place, p, 1));
                all.add((long) x.loops(place, p));
                all.add((long) x.stamp(place, p));
            }
        }
        for (int sheet = 0; sheet < 8; sheet++) {
            all.add((long) x.copy(sheet, 0, 7, 0, 0));
            for (int n = 1; n < 5; n++) {
                all.add((long) x.strip(9, sheet, 0, n));
                all.add((long) x.stamp(9, 0));
                all.add((long) x.stamp(9, 2));
            }
            if (sheet != 7) {
                all.add((long) x.drop(sheet));
            }
        }
        return all;
    }

    /** An object that was refused a call tells of itself the same as one that never had the call. */
    private static void dueUnchanged(Refused refused) {
        List<Long> ahead = null;
        for (int finding = 0; finding < 3; finding++) {
            x = new RiverRoad();
            shelf();
            x.ask(PEAKS, 2);
            if (ahead == null) {
                ahead = told();
                x = new RiverRoad();
                shelf();
                x.ask(PEAKS, 2);
            }
            leaveFinding(finding);
            due(refused.told, refused.call.on(x), refused.answer);
            due("status() behind " + refused.told, x.status(), statusBehind(refused, finding));
            int[] trace = {32, 31, 30, 10, 21};
            dueTrace(refused.told.equals("ask NULL") ? new int[0] : trace);
            due("what is told behind " + refused.told + " is as ahead", told().equals(ahead) ? 1 : 0, 1);
        }
    }

    /** Leaves 0, 1 (NULL) or 2 (PLACE) in status(), without ask(). */
    private static void leaveFinding(int finding) {
        int[] answers = {4, NULL, PLACE};
        due("a finding", finding == 0 ? x.kind(4) : finding == 1 ? x.kind(0) : x.set(7, 9, 0), answers[finding]);
        due("its number", x.status(), finding);
    }

    private static int statusBehind(Refused refused, int ahead) {
        if (refused.answer <= NULL) {
            return (int) (-1000010 - refused.answer);
        }
        boolean noPlace = refused.told.startsWith("trace");
        return refused.answer == NONE && !noPlace ? 0 : ahead;
    }

    // ---- terms of things

    /** From the document's words: 4 PEAKS, 3 NEST, 2 ARCHES, 1 ROW. */
    private static int kindOf(String signs) {
        int open = 0;
        boolean arches = true;
        for (int p = 0; p < signs.length(); p++) {
            open += signs.charAt(p) == '+' ? 1 : -1;
            arches &= open >= 0;
        }
        if (!arches || open != 0) {
            return 1;
        }
        boolean byTurns = !signs.contains("++") && !signs.contains("--");
        return byTurns ? 4 : !signs.contains("-+") ? 3 : 2;
    }

    private static void termsOfRows() {
        test(TERMS, "2 n signs (n 1 to 20), each + or -", () -> {
            due("n 1", row(0, "-+"), 1);
            due("n 1", x.as(0, 1), 1);
            dueSigns(0, "-+");
            due("n 20", row(0, "-".repeat(39) + "+"), 1);
            due("n 20", x.as(0, 1), 20);
            dueSigns(0, "-".repeat(39) + "+");
        });
        test(TERMS, "of each beginning of it no more are - than +, of all as many", () -> {
            for (int n = 1; n <= 4; n++) {
                for (int bits = 0; bits < 1 << 2 * n; bits++) {
                    x = new RiverRoad();
                    StringBuilder signs = new StringBuilder();
                    for (int p = 0; p < 2 * n; p++) {
                        signs.append((bits >> p & 1) != 0 ? '+' : '-');
                    }
                    due(signs.toString(), row(0, signs.toString()), kindOf(signs.toString()));
                }
            }
        });
        test(TERMS, "of each beginning of it no more are - than +, of all as many", () -> {
            due("the first is -", row(0, "-+" + "+-".repeat(19)), 1);
            due("the last is +", row(0, "+-".repeat(19) + "-+"), 1);
            due("one + too many", row(0, "+".repeat(21) + "-".repeat(19)), 1);
            due("one - too many", row(0, "+".repeat(19) + "-".repeat(21)), 1);
            due("as many, none too early", row(0, "+".repeat(19) + "-".repeat(19) + "+-"), 2);
        });
        test(TERMS, "each - is joined to the latest + ahead of it that is not joined yet", () -> {
            due("arches", row(0, "++-++--+-+--+-"), 2);
            dueJoined(0, 11, 2, 1, 6, 5, 4, 3, 8, 7, 10, 9, 0, 13, 12);
            due("of 20, from the first to the last crossing", row(0, "+" + "+-".repeat(19) + "-"), 2);
            due("the first", x.joined(0, 0), 39);
            due("the last", x.joined(0, 39), 0);
            due("the last but one", x.joined(0, 38), 37);
        });
        test(TERMS, "Places of a ROW, 0 to 2 n - 1, are crossings", () -> {
            x.nth(0, 1, 0);
            due("the last of 2", x.sign(0, 1), -1);
            due("behind the last of 2", x.sign(0, 2), BAD);
            row(0, "+".repeat(40));
            due("the first of 40", x.sign(0, 0), 1);
            due("the last of 40", x.sign(0, 39), 1);
            due("behind the last of 40", x.sign(0, 40), BAD);
            due("ahead of the first", x.sign(0, -1), BAD);
        });
        test(TERMS, "3 NEST, ARCHES: all + ahead of all -", () -> {
            due("of 2", row(0, "++--"), 3);
            due("of 20", row(0, "+".repeat(20) + "-".repeat(20)), 3);
            due("one sign off", row(0, "+".repeat(19) + "-+" + "-".repeat(19)), 2);
            due("all - ahead of all +", row(0, "--++"), 1);
            due("all +", row(0, "++++"), 1);
        });
        test(TERMS, "4 PEAKS, ARCHES: + and - by turns", () -> {
            due("of 2", row(0, "+-+-"), 4);
            due("of 20", row(0, "+-".repeat(20)), 4);
            due("two signs off", row(0, "+-".repeat(18) + "++--"), 2);
            due("- first", row(0, "-+-+"), 1);
        });
        test(TERMS, "(Of one arch: PEAKS.)", () -> {
            due("by row", row(0, "+-"), 4);
            due("by nth", x.nth(1, 1, 0), 4);
            due("by turn", x.turn(2, 1), 4);
            due("by mirror", x.mirror(3, 1), 4);
            due("told", x.kind(3), 4);
            due("is no nest", x.is(3, 3), 0);
            due("isn't taken as a nest", x.as(3, 3), KIND);
            due("asked as peaks", x.ask(3, 1), 1);
            dueTrace(21);
        });
    }

    private static void termsOfLandsAndStrips() {
        test(TERMS, "6 LOOP, a LAND with one loop", () -> {
            shelf();
            due("one loop", x.land(0, NEST, PEAKS), 6);
            due("two loops", x.land(0, PEAKS, PEAKS), 5);
            due("of one arch", x.land(0, ONE_ARCH, ONE_ARCH), 6);
            x.nth(1, 12, 208011);
            x.turn(2, 1);
            due("one loop of 12", x.land(0, 1, 2), 6);
            x.nth(2, 12, 208010);
            due("many loops of 12", x.land(0, 1, 2), 5);
        });
        test(TERMS, "an order of n STAMPS 0 .. n - 1 (n 1 to 20)", () -> {
            due("of 1", strip(0, 0), 8);
            due("of 1", x.as(0, 7), 1);
            dueStamps(0, 0);
            due("of 20", strip(0, upTo(20)), 8);
            due("of 20", x.as(0, 7), 20);
            dueStamps(0, upTo(20));
        });
        test(TERMS, "all tell the KIND of what a place has then", () -> {
            shelf();
            int[] told = {
                row(0, "++"), x.land(1, NEST, PEAKS), strip(2, 0, 2, 1, 3), x.nth(0, 3, 1), x.turn(1, 0),
                x.mirror(2, 0), x.mirror(5, LAND), x.nthFold(6, 3, 5),
            };
            int[] kinds = {1, 6, 7, 2, 4, 2, 5, 8};
            for (int i = 0; i < told.length; i++) {
                due("thing " + i, told[i], kinds[i]);
            }
            int[] now = {2, 4, 2, 3, 4, 5, 8, 7, 8, 4};
            for (int place = 0; place < 10; place++) {
                due("kind(" + place + ")", x.kind(place), now[place]);
            }
        });
        test(TERMS, "A THING is told as the first of these that fits: PEAKS, NEST, ARCHES, ROW; LOOP, LAND; "
            + "FOLD, STRIP: by this it is asked", () -> {
            shelf();
            for (int place = 1; place < 9; place++) {
                due("kind(" + place + ")", x.kind(place), place);
            }
            due("peaks, no nest", x.kind(ONE_ARCH), 4);
            int[] worths = {20, 21, 22, 21, 23, 24, 25, 26};
            for (int place = 1; place < 9; place++) {
                x.ask(place, 1);
                due("the body that begins, of " + place, x.trace(0), worths[place - 1]);
            }
        });
        test(TERMS, "from a crossing along its arch OVER the road, then UNDER it, and so on, till one is back; "
            + "each crossing is in one of them. They are numbered by their least crossings", () -> {
            row(0, "+".repeat(20) + "-".repeat(20));
            row(1, "+-".repeat(20));
            x.land(2, 0, 0);
            x.land(3, 1, 1);
            x.land(4, 0, 1);
            for (int p = 0; p < 40; p++) {
                int fromEnd = Math.min(p, 39 - p);
                due("loops(2, " + p + ")", x.loops(2, p), fromEnd);
                due("loops(3, " + p + ")", x.loops(3, p), p / 2);
                due("loops(4, " + p + ")", x.loops(4, p), fromEnd / 2);
            }
            due("the most loops", x.loops(2, -1), 20);
            due("the most loops", x.loops(3, -1), 20);
            due("loops of four", x.loops(4, -1), 10);
        });
        test(TERMS, "A STRIP FOLDS, if for no two joints, of STAMPS i and i + 1, j and j + 1, i less than j, "
            + "both even or both odd, just one of j, j + 1 lies between i and i + 1 in the order", () -> {
            due("no joint", strip(0, 0), 8);
            due("one joint", strip(0, 1, 0), 8);
            due("an even and an odd one that cross", strip(0, 1, 0, 2), 8);
            due("both between", strip(0, 0, 2, 3, 1), 8);
            due("none between", strip(0, 3, 2, 0, 1), 8);
            due("none between, i within j", strip(0, 2, 0, 1, 3), 8);
            due("j between", strip(0, 0, 2, 1, 3), 7);
            due("j + 1 between", strip(0, 0, 3, 1, 2), 7);
            due("j between, told backward", strip(0, 1, 2, 0, 3), 7);
            due("j + 1 between, from ahead", strip(0, 2, 0, 3, 1), 7);
            due("odd ones", strip(0, 0, 1, 3, 2, 4), 7);
        });
        test(TERMS, "(So joints are i and i + 1, i from 0 to n - 2, told by i.)", () -> {
            int[] order = upTo(20);
            System.arraycopy(upTo(20), 1, order, 2, 18);
            order[1] = 19;
            due("the first and the last joint", strip(0, order), 7);
            due("i", x.clash(0, 0), 0);
            due("j", x.clash(0, 1), 18);
            order = upTo(20);
            order[17] = 18;
            order[18] = 17;
            due("the last two even ones", strip(1, order), 7);
            due("i", x.clash(1, 0), 16);
            due("j", x.clash(1, 1), 18);
            order = upTo(20);
            order[16] = 17;
            order[17] = 16;
            due("the last two odd ones", strip(2, order), 7);
            due("i", x.clash(2, 0), 15);
            due("j", x.clash(2, 1), 17);
        });
    }

    private static void termsOfOrder() {
        test(TERMS, "by signs, + ahead of -, place by place: the 0-th is NEST; "
            + "there are 1, 2, 5, 14, 42, .. for n 1, 2, .. .", () -> {
            for (int n = 1; n <= 12; n++) {
                due("the 0-th of " + n, x.nth(0, n, 0), n == 1 ? 4 : 3);
                due("the last of " + n, x.nth(0, n, ARCHES_OF[n - 1] - 1), 4);
                due("behind the last of " + n, x.nth(0, n, ARCHES_OF[n - 1]), NONE);
            }
            String[] ofThree = {"+++---", "++-+--", "++--+-", "+-++--", "+-+-+-"};
            for (int i = 0; i < 5; i++) {
                x.nth(i, 3, i);
                dueSigns(i, ofThree[i]);
            }
        });
        test(TERMS, "ORDER of STRIPS: by STAMPS at places, the lesser ahead", () -> {
            int[][] ofThree = {{0, 1, 2}, {0, 2, 1}, {1, 0, 2}, {1, 2, 0}, {2, 0, 1}, {2, 1, 0}};
            for (int i = 0; i < 6; i++) {
                x.nthFold(0, 3, i);
                dueStamps(0, ofThree[i]);
            }
        });
        test(TERMS, "TURNED ARCHES: each crossing one less, 0 behind all; who is joined stays joined", () -> {
            for (int i = 0; i < 14; i++) {
                x = new RiverRoad();
                x.nth(0, 4, i);
                x.turn(1, 0);
                for (int p = 0; p < 8; p++) {
                    int want = (x.joined(0, p) + 7) % 8;
                    due("crossing " + p + " of the " + i + "-th turned", x.joined(1, (p + 7) % 8), want);
                }
            }
        });
        test(TERMS, "TURNED ARCHES: each crossing one less, 0 behind all; who is joined stays joined", () -> {
            String signs = "+".repeat(18) + "-+" + "-".repeat(17) + "+" + "--";
            due("arches of 20", row(0, signs), 2);
            for (int turns = 0; turns < 40; turns++) {
                due("turned", x.turn(0, 0) <= 4 ? 1 : 0, 1);
            }
            dueSigns(0, signs);
        });
        test(TERMS, "MIRRORED: crossing p is 2 n - 1 - p", () -> {
            for (int i = 0; i < 14; i++) {
                x = new RiverRoad();
                x.nth(0, 4, i);
                x.mirror(1, 0);
                for (int p = 0; p < 8; p++) {
                    int want = 7 - x.joined(0, p);
                    due("crossing " + p + " of the " + i + "-th mirrored", x.joined(1, 7 - p), want);
                }
            }
        });
        test(TERMS, "Two LANDS are ALIKE, if one becomes the other by turning both ARCHES (as often as one likes), "
            + "mirroring both, changing OVER and UNDER, one behind the other in any way", () -> {
            for (int n = 1; n <= 4; n++) {
                due("unlike(" + n + ")", new RiverRoad().unlike(n), unlikeByTheClass(n));
            }
        });
    }

    /** Joins all LOOPS of n that are ALIKE, as the class itself turns and mirrors them. */
    private static int unlikeByTheClass(int n) {
        int many = ARCHES_OF[n - 1];
        int[] turned = new int[many];
        int[] mirrored = new int[many];
        for (int i = 0; i < many; i++) {
            x = new RiverRoad();
            x.nth(0, n, i);
            x.turn(1, 0);
            x.mirror(2, 0);
            turned[i] = x.rank(1);
            mirrored[i] = x.rank(2);
        }
        boolean[] seen = new boolean[many * many];
        int unlike = 0;
        for (int land = 0; land < many * many; land++) {
            x = new RiverRoad();
            x.nth(0, n, land / many);
            x.nth(1, n, land % many);
            if (x.land(2, 0, 1) == 6 && !seen[land]) {
                unlike++;
                spread(land, turned, mirrored, seen);
            }
        }
        return unlike;
    }

    private static void spread(int land, int[] turned, int[] mirrored, boolean[] seen) {
        if (seen[land]) {
            return;
        }
        seen[land] = true;
        int many = turned.length;
        int over = land / many;
        int under = land % many;
        spread(turned[over] * many + turned[under], turned, mirrored, seen);
        spread(mirrored[over] * many + mirrored[under], turned, mirrored, seen);
        spread(under * many + over, turned, mirrored, seen);
    }

    private static void dueAsk(String words, int place, int what, int answer, int... numbers) {
        test(TERMS, words, () -> {
            shelf();
            due("ask(" + place + ", " + what + ")", x.ask(place, what), answer);
            dueTrace(numbers);
        });
    }

    private static void termsOfAsks() {
        test(TERMS, "each of which leaves its number in THE TRACE as it begins (the first 16)", () -> {
            shelf();
            dueTrace();
            x.ask(PEAKS, 2);
            dueTrace(32, 31, 30, 10, 21);
            x.ask(ROW, 0);
            dueTrace(10);
        });
        dueAsk("10 lent to all THINGS: n", ROW, 0, 1, 10);
        dueAsk("10 lent to all THINGS: n", ARCHES, 0, 3, 10);
        dueAsk("10 lent to all THINGS: n", NEST, 0, 2, 10);
        dueAsk("10 lent to all THINGS: n", PEAKS, 0, 2, 10);
        dueAsk("10 lent to all THINGS: n", STRIP, 0, 4, 10);
        dueAsk("10 lent to all THINGS: n", FOLD, 0, 2, 10);
        dueAsk("11 of LANDS: twice what 10 gives (asked once)", LAND, 0, 4, 11, 10);
        dueAsk("11 of LANDS: twice what 10 gives (asked once)", LOOP, 0, 4, 11, 10);
        dueAsk("20 of ROWS: how many signs are +", ROW, 1, 1, 20);
        dueAsk("21 of ARCHES: how many arches are joined to the next crossing", ARCHES, 1, 2, 21);
        dueAsk("21 of ARCHES: how many arches are joined to the next crossing", PEAKS, 1, 2, 21);
        dueAsk("22 of NESTS: what 21 gives, and SIZE", NEST, 1, 3, 22, 21, 10);
        dueAsk("23 of LANDS: how many loops", LAND, 1, 2, 23);
        dueAsk("24 of LOOPS: what 23 gives (asked once), times SIZE (asked behind it)", LOOP, 1, 4, 24, 23, 11, 10);
        dueAsk("25 of STRIPS: the place of STAMP 0", STRIP, 1, 0, 25);
        dueAsk("26 of FOLDS: what 25 gives, and 100", FOLD, 1, 101, 26, 25);
        dueAsk("30 lent to all THINGS: SIZE, and 3", ROW, 2, 4, 30, 10);
        dueAsk("30 lent to all THINGS: SIZE, and 3", LAND, 2, 7, 30, 11, 10);
        dueAsk("30 lent to all THINGS: SIZE, and 3", LOOP, 2, 7, 30, 11, 10);
        dueAsk("30 lent to all THINGS: SIZE, and 3", STRIP, 2, 7, 30, 10);
        dueAsk("31 of ARCHES: twice what 30 gives (asked once)", ARCHES, 2, 12, 31, 30, 10);
        dueAsk("31 of ARCHES: twice what 30 gives (asked once)", NEST, 2, 10, 31, 30, 10);
        dueAsk("32 of PEAKS: what 31 gives, and WORTH", PEAKS, 2, 12, 32, 31, 30, 10, 21);
        dueAsk("33 of FOLDS: what 30 gives, less 1", FOLD, 2, 4, 33, 30, 10);
        test(TERMS, "20 of ROWS: how many signs are +", () -> {
            row(0, "-".repeat(40));
            due("none", x.ask(0, 1), 0);
            row(0, "+".repeat(40));
            due("all", x.ask(0, 1), 40);
        });
        test(TERMS, "21 of ARCHES: how many arches are joined to the next crossing", () -> {
            row(0, "+".repeat(19) + "-".repeat(19) + "+-");
            due("the last two crossings, too", x.ask(0, 1), 2);
            row(0, "+-" + "+".repeat(19) + "-".repeat(19));
            due("the first two crossings, too", x.ask(0, 1), 2);
        });
        test(TERMS, "25 of STRIPS: the place of STAMP 0", () -> {
            strip(0, 2, 3, 1, 0);
            due("a fold, stamp 0 last", x.ask(0, 1), 103);
            strip(0, 3, 1, 2, 0);
            due("no fold, stamp 0 last", x.ask(0, 1), 3);
            strip(0, 1, 3, 0, 2);
            due("no fold, stamp 0 third", x.ask(0, 1), 2);
        });
        test(TERMS, "(Of an ask the BODY told for the KIND begins, else that of the nearest KIND that it is, too, "
            + "else the one that is lent; SIZE, WORTH within others are asked of the same THING anew.)", () -> {
            shelf();
            int[][] begin = {
                {10, 10, 10, 10, 11, 11, 10, 10}, {20, 21, 22, 21, 23, 24, 25, 26}, {30, 31, 31, 32, 30, 30, 30, 33},
            };
            for (int what = 0; what < 3; what++) {
                for (int place = 1; place < 9; place++) {
                    x.ask(place, what);
                    due("the body of ask " + what + " of kind " + place, x.trace(0), begin[what][place - 1]);
                }
            }
        });
    }

    // ---- promises 1 to 8

    private static void newObject() {
        test(1, "No SHEETS, an empty SHELF", () -> {
            due("sheets", x.count(0), 0);
            due("things", x.count(1), 0);
            due("status", x.status(), 0);
            for (int i = -1; i < 17; i++) {
                due("trace(" + i + ")", x.trace(i), NONE);
            }
            for (int sheet = 0; sheet < 8; sheet++) {
                due("drop(" + sheet + ")", x.drop(sheet), NULL);
            }
            for (int place = 0; place < 10; place++) {
                due("kind(" + place + ")", x.kind(place), NULL);
                due("clear(" + place + ")", x.clear(place), 0);
            }
        });
        test(1, "No SHEETS, an empty SHELF", () -> {
            shelf();
            x.kind(0);
            RiverRoad other = new RiverRoad();
            due("sheets of another object", other.count(0), 0);
            due("things of another object", other.count(1), 0);
            due("status of another object", other.status(), 0);
        });
    }

    private static void sheets() {
        test(2, "A SHEET of a LANE with n ITEMS, in place of what is there: n", () -> {
            due("of none", x.sheet(0, 0, 0), 0);
            due("none is there", x.set(0, 0, 0), PLACE);
            due("of the most", x.sheet(7, 2, 100), 100);
            due("the last is there", x.set(7, 99, 1), 1);
            due("in place of it", x.sheet(7, 2, 100), 100);
            due("0 again", x.strip(0, 7, 99, 1), 8);
            due("a lesser one", x.sheet(7, 0, 1), 1);
            due("the last is gone", x.set(7, 1, 1), PLACE);
            due("of another lane", x.set(7, 0, 200), -56);
            due("two sheets are there", x.count(0), 2);
        });
        test(2, "BAD: SHEET, LANE, n above 100", () -> {
            for (int sheet : NO_SHEETS) {
                due("sheet(" + sheet + ", 0, 1)", x.sheet(sheet, 0, 1), BAD);
            }
            for (int lane : new int[] {LEAST, -1, 3, MOST}) {
                due("sheet(0, " + lane + ", 1)", x.sheet(0, lane, 1), BAD);
            }
            due("sheet(0, 0, 101)", x.sheet(0, 0, 101), BAD);
            due("sheet(0, 0, most)", x.sheet(0, 0, MOST), BAD);
            due("none was made", x.count(0), 0);
        });
        test(2, "SIZE", () -> {
            due("sheet(0, 0, -1)", x.sheet(0, 0, -1), SIZE);
            due("sheet(0, 0, least)", x.sheet(0, 0, LEAST), SIZE);
            due("none was made", x.count(0), 0);
            due("BAD ahead of it: the sheet", x.sheet(8, 0, -1), BAD);
            due("BAD ahead of it: the lane", x.sheet(0, 3, -1), BAD);
        });
        test(3, "ITEM i becomes v, its lowest bits, as many as the LANE has (read with their sign): what it is then", () -> {
            int[][] dues = {
                {0, 127, 127}, {0, 128, -128}, {0, 255, -1}, {0, 256, 0}, {0, -128, -128}, {0, -129, 127},
                {0, MOST, -1}, {0, LEAST, 0}, {0, 0x180, -128}, {0, 0x17f, 127},
                {1, 32767, 32767}, {1, 32768, -32768}, {1, 65535, -1}, {1, 65536, 0}, {1, -32768, -32768},
                {1, -32769, 32767}, {1, MOST, -1}, {1, LEAST, 0}, {1, 128, 128},
                {2, MOST, MOST}, {2, LEAST, LEAST}, {2, 65536, 65536}, {2, -1, -1}, {2, BAD, BAD},
            };
            for (int[] each : dues) {
                x.sheet(0, each[0], 1);
                due("lane " + each[0] + ", " + each[1], x.set(0, 0, each[1]), each[2]);
                due("its finding", x.status(), 0);
            }
        });
        test(3, "ITEM i becomes v, its lowest bits, as many as the LANE has (read with their sign): what it is then", () -> {
            x.sheet(0, 0, 3);
            x.set(0, 0, 257);
            x.set(0, 1, 256);
            x.set(0, 2, 258);
            due("kept cut, none beside it touched", x.strip(0, 0, 0, 3), 8);
            dueStamps(0, 1, 0, 2);
            x.set(0, 0, 128);
            x.set(0, 1, 1);
            due("kept with its sign", x.row(0, 0, 0, 1), 1);
            dueSigns(0, "-+");
        });
        test(3, "BAD: SHEET", () -> {
            for (int sheet : NO_SHEETS) {
                due("set(" + sheet + ", 0, 1)", x.set(sheet, 0, 1), BAD);
                due("set(" + sheet + ", -1, 1)", x.set(sheet, -1, 1), BAD);
            }
        });
        test(3, "NULL", () -> {
            due("never made", x.set(0, 0, 1), NULL);
            due("ahead of PLACE", x.set(0, -1, 1), NULL);
            x.sheet(0, 0, 1);
            x.drop(0);
            due("dropped", x.set(0, 0, 1), NULL);
        });
        test(3, "PLACE", () -> {
            x.sheet(0, 0, 0);
            x.sheet(1, 1, 5);
            x.sheet(2, 2, 100);
            due("of none", x.set(0, 0, 1), PLACE);
            due("the end", x.set(1, 5, 1), PLACE);
            due("the last", x.set(1, 4, 1), 1);
            due("ahead", x.set(1, -1, 1), PLACE);
            due("the end of 100", x.set(2, 100, 1), PLACE);
            due("the greatest", x.set(2, MOST, 1), PLACE);
            due("the least", x.set(2, LEAST, 1), PLACE);
        });
        test(5, "A SHEET is missing from now on: how many ITEMS it had", () -> {
            x.sheet(0, 0, 0);
            x.sheet(7, 2, 100);
            due("of none", x.drop(0), 0);
            due("of the most", x.drop(7), 100);
            due("missing", x.set(7, 0, 0), NULL);
            due("missing", x.row(0, 7, 0, 1), NULL);
            due("missing", x.strip(0, 0, 0, 1), NULL);
            due("missing", x.count(0), 0);
            due("made again", x.sheet(7, 2, 1), 1);
        });
        test(5, "BAD", () -> {
            for (int sheet : NO_SHEETS) {
                due("drop(" + sheet + ")", x.drop(sheet), BAD);
            }
        });
        test(5, "NULL", () -> {
            due("never made", x.drop(7), NULL);
            x.sheet(7, 0, 1);
            x.drop(7);
            due("dropped", x.drop(7), NULL);
        });
    }

    private static void copies() {
        test(4, "n ITEMS of a from i on come to b from j on, as they were ahead: n", () -> {
            items(0, 0, 0, 1, 2, 3, 4, 5);
            due("onto what is behind", x.copy(0, 0, 0, 1, 5), 5);
            due("as they were", x.strip(0, 0, 1, 5), 8);
            dueStamps(0, 0, 1, 2, 3, 4);
            due("onto what is ahead", x.copy(0, 1, 0, 0, 5), 5);
            due("as they were", x.strip(0, 0, 0, 5), 8);
            dueStamps(0, 0, 1, 2, 3, 4);
            due("onto itself", x.copy(0, 0, 0, 0, 6), 6);
            x.sheet(1, 0, 6);
            due("all", x.copy(0, 0, 1, 0, 5), 5);
            due("the other has them", x.strip(1, 1, 0, 5), 8);
            dueStamps(1, 0, 1, 2, 3, 4);
            due("no more than n", x.strip(1, 1, 5, 1), 8);
            x.set(0, 0, 9);
            due("they are its own from then on", x.strip(1, 1, 0, 5), 8);
        });
        test(4, "n ITEMS of a from i on come to b from j on, as they were ahead: n", () -> {
            items(0, 0, 0, 1);
            x.sheet(1, 0, 0);
            due("none, from ends", x.copy(0, 2, 1, 0, 0), 0);
            due("none, to ends", x.copy(1, 0, 0, 2, 0), 0);
            due("none, of none", x.copy(1, 0, 1, 0, 0), 0);
            due("nothing came", x.strip(0, 0, 0, 2), 8);
        });
        test(4, "BAD: SHEETS", () -> {
            x.sheet(0, 0, 1);
            for (int sheet : NO_SHEETS) {
                due("a " + sheet, x.copy(sheet, 0, 0, 0, 1), BAD);
                due("b " + sheet, x.copy(0, 0, sheet, 0, 1), BAD);
                due("a " + sheet + ", ahead of NULL, PLACE", x.copy(sheet, -1, 1, 0, 1), BAD);
                due("b " + sheet + ", ahead of NULL, PLACE", x.copy(1, -1, sheet, 0, 1), BAD);
            }
        });
        test(4, "NULL", () -> {
            x.sheet(0, 0, 1);
            due("a", x.copy(1, 0, 0, 0, 1), NULL);
            due("b", x.copy(0, 0, 1, 0, 1), NULL);
            due("both", x.copy(1, 0, 1, 0, 0), NULL);
            due("a, ahead of PLACE", x.copy(1, -1, 0, 0, 1), NULL);
            due("b, ahead of PLACE", x.copy(0, -1, 1, 0, 1), NULL);
        });
        test(4, "STORE", () -> {
            for (int lane = 0; lane < 3; lane++) {
                x.sheet(lane, lane, 2);
            }
            for (int a = 0; a < 3; a++) {
                for (int b = 0; b < 3; b++) {
                    due(a + " to " + b, x.copy(a, 0, b, 0, 1), a == b ? 1 : STORE);
                    due("none of " + a + " to " + b, x.copy(a, 0, b, 0, 0), a == b ? 0 : STORE);
                    due("ahead of PLACE, " + a + " to " + b, x.copy(a, -1, b, 0, 1), a == b ? PLACE : STORE);
                }
            }
        });
        test(4, "PLACE (i, j, n below 0, or beyond an end)", () -> {
            x.sheet(0, 0, 3);
            x.sheet(1, 0, 5);
            due("to the end of a", x.copy(0, 1, 1, 0, 2), 2);
            due("to the end of b", x.copy(1, 0, 0, 1, 2), 2);
            due("i below 0", x.copy(0, -1, 1, 0, 1), PLACE);
            due("j below 0", x.copy(0, 0, 1, -1, 1), PLACE);
            due("n below 0", x.copy(0, 0, 1, 0, -1), PLACE);
            due("n below 0, from the ends", x.copy(0, 3, 1, 5, -1), PLACE);
            due("beyond the end of a", x.copy(0, 1, 1, 0, 3), PLACE);
            due("beyond the end of b", x.copy(1, 0, 0, 1, 3), PLACE);
            due("more than a has", x.copy(0, 0, 1, 0, 4), PLACE);
            due("none, beyond the end of a", x.copy(0, 4, 1, 0, 0), PLACE);
            due("none, beyond the end of b", x.copy(1, 0, 0, 4, 0), PLACE);
            due("none, i below 0", x.copy(0, -1, 1, 0, 0), PLACE);
            due("none, j below 0", x.copy(0, 0, 1, -1, 0), PLACE);
            for (int far : new int[] {LEAST, MOST}) {
                due("i far off", x.copy(0, far, 1, 0, 1), PLACE);
                due("j far off", x.copy(0, 0, 1, far, 1), PLACE);
                due("n far off", x.copy(0, 1, 1, 1, far), PLACE);
                due("i, n far off", x.copy(0, far, 1, 0, far), PLACE);
                due("j, n far off", x.copy(0, 0, 1, far, far), PLACE);
            }
            due("i and n wrap around", x.copy(0, MOST, 1, 0, 2), PLACE);
            due("j and n wrap around", x.copy(0, 0, 1, MOST, 2), PLACE);
        });
    }

    private static void rows() {
        test(6, "A place has a ROW of 2 n signs, ITEMS of a SHEET from i on: above 0 +, below 0 -", () -> {
            items(0, 2, 0, 1, -1, MOST, LEAST, 0);
            due("above and below 0", x.row(0, 0, 1, 1), 4);
            dueSigns(0, "+-");
            due("far above and below 0", x.row(0, 0, 3, 1), 4);
            dueSigns(0, "+-");
            due("from i on", x.row(9, 0, 2, 1), 1);
            dueSigns(9, "-+");
            due("of 2 n, no more", x.row(0, 0, 1, 2), 4);
            dueSigns(0, "+-+-");
        });
        test(6, "A place has a ROW of 2 n signs, ITEMS of a SHEET from i on: above 0 +, below 0 -", () -> {
            due("in place of what is there", strip(0, 0), 8);
            due("in place of what is there", row(0, "++"), 1);
            due("one thing", x.count(1), 1);
            due("the last 40 of 100", x.sheet(0, 0, 100), 100);
            for (int i = 60; i < 100; i++) {
                x.set(0, i, i < 80 ? 1 : -1);
            }
            due("the last 40 of 100", x.row(1, 0, 60, 20), 3);
            due("one more", x.row(1, 0, 61, 20), PLACE);
        });
        test(6, "BAD: place, SHEET, n", () -> {
            items(0, 0, 1, -1);
            for (int place : NO_PLACES) {
                due("place " + place, x.row(place, 0, 0, 1), BAD);
                due("place " + place + ", ahead of NULL", x.row(place, 1, 0, 1), BAD);
                due("place " + place + ", ahead of PLACE", x.row(place, 0, -1, 1), BAD);
            }
            for (int sheet : NO_SHEETS) {
                due("sheet " + sheet, x.row(0, sheet, 0, 1), BAD);
            }
            for (int n : new int[] {LEAST, -1, 0, 21, MOST, 1 << 30, 1 << 31 | 1}) {
                due("n " + n, x.row(0, 0, 0, n), BAD);
                due("n " + n + ", ahead of NULL", x.row(0, 1, 0, n), BAD);
            }
            due("nothing was put", x.count(1), 0);
        });
        test(6, "NULL", () -> {
            due("never made", x.row(0, 0, 0, 1), NULL);
            due("ahead of PLACE", x.row(0, 0, -1, 20), NULL);
            x.sheet(0, 0, 2);
            x.drop(0);
            due("dropped", x.row(0, 0, 0, 1), NULL);
        });
        test(6, "PLACE", () -> {
            items(0, 0, 1, 1, -1, -1);
            due("all", x.row(0, 0, 0, 2), 3);
            due("the last two", x.row(0, 0, 2, 1), 1);
            due("one of them beyond the end", x.row(0, 0, 3, 1), PLACE);
            due("both beyond the end", x.row(0, 0, 4, 1), PLACE);
            due("more than there are", x.row(0, 0, 0, 3), PLACE);
            due("below 0", x.row(0, 0, -1, 1), PLACE);
            due("far below 0", x.row(0, 0, LEAST, 20), PLACE);
            due("far beyond", x.row(0, 0, MOST, 20), PLACE);
            x.sheet(1, 0, 0);
            due("of none", x.row(0, 1, 0, 1), PLACE);
            x.sheet(2, 0, 1);
            due("ahead of a 0", x.row(0, 2, 0, 1), PLACE);
        });
        test(6, "then BAD: an ITEM is 0", () -> {
            items(0, 0, 1, -1, 1, -1, 0);
            due("none is", x.row(0, 0, 0, 2), 4);
            due("the last", x.row(1, 0, 3, 1), BAD);
            x.set(0, 0, 0);
            due("the first", x.row(1, 0, 0, 2), BAD);
            due("not one ahead of i", x.row(1, 0, 1, 1), 1);
            x.set(0, 2, 256);
            due("a byte that became 0", x.row(2, 0, 1, 1), BAD);
            due("the place stays empty", x.kind(2), NULL);
        });
    }

    private static void lands() {
        test(7, "A place has the LAND with OVER and UNDER of two others", () -> {
            row(0, "++--+-");
            row(1, "+++---");
            due("a land", x.land(2, 0, 1), 6);
            due("over first", x.way(2, 0, 1), 3);
            due("then under", x.way(2, 0, 2), 2);
            due("the other way about", x.land(3, 1, 0), 6);
            due("over first", x.way(3, 0, 1), 5);
            due("one for both", x.land(4, 0, 0), 5);
            due("in place of one of them", x.land(0, 0, 1), 6);
            due("over first", x.way(0, 0, 1), 3);
        });
        test(7, "BAD: places", () -> {
            shelf();
            for (int place : NO_PLACES) {
                due("to " + place, x.land(place, NEST, PEAKS), BAD);
                due("over " + place, x.land(0, place, PEAKS), BAD);
                due("under " + place, x.land(0, NEST, place), BAD);
                due("to " + place + ", ahead of NULL", x.land(place, 0, PEAKS), BAD);
                due("over " + place + ", ahead of KIND", x.land(0, place, ROW), BAD);
                due("under " + place + ", ahead of KIND", x.land(0, ROW, place), BAD);
            }
            due("nothing was put", x.kind(0), NULL);
        });
        test(7, "NULL, KIND (OVER, then UNDER: no ARCHES)", () -> {
            shelf();
            due("over is empty", x.land(1, EMPTY, NEST), NULL);
            due("under is empty", x.land(1, NEST, EMPTY), NULL);
            for (int no : new int[] {ROW, LAND, LOOP, STRIP, FOLD}) {
                due("over of kind " + no, x.land(0, no, NEST), KIND);
                due("under of kind " + no, x.land(0, NEST, no), KIND);
                due("over is empty, ahead of under of kind " + no, x.land(1, EMPTY, no), NULL);
                due("over of kind " + no + ", ahead of under that is empty", x.land(1, no, EMPTY), KIND);
            }
            due("KIND ahead of unlike n", x.land(0, NEST, ROW), KIND);
            due("nothing was put", x.kind(0), NULL);
        });
        test(7, "then BAD: they have unlike n", () -> {
            shelf();
            due("2 and 3", x.land(0, NEST, ARCHES), BAD);
            due("3 and 2", x.land(0, ARCHES, PEAKS), BAD);
            due("1 and 2", x.land(0, ONE_ARCH, PEAKS), BAD);
            due("nothing was put", x.kind(0), NULL);
            due("of one n", x.land(0, NEST, PEAKS), 6);
        });
    }

    private static void strips() {
        test(8, "A place has the STRIP of n STAMPS, ITEMS of a SHEET from i on", () -> {
            items(0, 2, 9, 1, 0, 2, 9);
            due("from i on", x.strip(9, 0, 1, 3), 8);
            dueStamps(9, 1, 0, 2);
            due("no more than n", x.strip(9, 0, 1, 2), 8);
            dueStamps(9, 1, 0);
            due("the last 20 of 100", x.sheet(0, 0, 100), 100);
            for (int i = 80; i < 100; i++) {
                x.set(0, i, 99 - i);
            }
            due("the last 20 of 100", x.strip(0, 0, 80, 20), 8);
            due("its first", x.stamp(0, 0), 19);
            due("its last", x.stamp(0, 19), 0);
        });
        test(8, "BAD: place, SHEET, n", () -> {
            x.sheet(0, 0, 1);
            for (int place : NO_PLACES) {
                due("place " + place, x.strip(place, 0, 0, 1), BAD);
                due("place " + place + ", ahead of NULL", x.strip(place, 1, 0, 1), BAD);
                due("place " + place + ", ahead of PLACE", x.strip(place, 0, -1, 1), BAD);
            }
            for (int sheet : NO_SHEETS) {
                due("sheet " + sheet, x.strip(0, sheet, 0, 1), BAD);
            }
            for (int n : new int[] {LEAST, -1, 0, 21, MOST}) {
                due("n " + n, x.strip(0, 0, 0, n), BAD);
                due("n " + n + ", ahead of NULL", x.strip(0, 1, 0, n), BAD);
            }
            due("nothing was put", x.count(1), 0);
        });
        test(8, "BAD: place, SHEET, n", () -> {
            x.sheet(0, 0, 100);
            for (int i = 0; i < 21; i++) {
                x.set(0, i, i);
            }
            due("20", x.strip(0, 0, 0, 20), 8);
            due("21", x.strip(0, 0, 0, 21), BAD);
        });
        test(8, "NULL", () -> {
            due("never made", x.strip(0, 0, 0, 1), NULL);
            due("ahead of PLACE", x.strip(0, 0, -1, 20), NULL);
            x.sheet(0, 0, 1);
            x.drop(0);
            due("dropped", x.strip(0, 0, 0, 1), NULL);
        });
        test(8, "PLACE", () -> {
            items(0, 0, 1, 0);
            due("all", x.strip(0, 0, 0, 2), 8);
            due("the last", x.strip(0, 0, 1, 1), 8);
            due("beyond the end", x.strip(0, 0, 2, 1), PLACE);
            due("one of them beyond the end", x.strip(0, 0, 1, 2), PLACE);
            due("ahead of wrong stamps", x.strip(0, 0, 0, 3), PLACE);
            due("below 0", x.strip(0, 0, -1, 2), PLACE);
            due("far below 0", x.strip(0, 0, LEAST, 20), PLACE);
            due("far beyond", x.strip(0, 0, MOST, 20), PLACE);
            x.sheet(1, 0, 0);
            due("of none", x.strip(0, 1, 0, 1), PLACE);
        });
        test(8, "then BAD: they are not 0 .. n - 1, each once", () -> {
            due("0 twice", strip(0, 0, 0), BAD);
            due("1 twice", strip(0, 1, 2, 1), BAD);
            due("n", strip(0, 0, 2), BAD);
            due("n, of 1", strip(0, 1), BAD);
            due("below 0", strip(0, -1, 0), BAD);
            due("without 0", strip(0, 1, 2, 3), BAD);
            items(1, 2, 32, 0, 33, 1, LEAST, MOST);
            due("0 and 32", x.strip(0, 1, 0, 2), BAD);
            due("0 and 33", x.strip(0, 1, 1, 2), BAD);
            due("1 and the least", x.strip(0, 1, 3, 2), BAD);
            due("the greatest", x.strip(0, 1, 5, 1), BAD);
            int[] stamps = upTo(20);
            stamps[19] = 18;
            due("18 twice, of 20", strip(0, stamps), BAD);
            stamps[19] = 20;
            due("20 of 20", strip(0, stamps), BAD);
            due("nothing was put", x.kind(0), NULL);
        });
    }

    // ---- promises 9 to 12

    private static void nths() {
        test(9, "A place has the i-th ARCHES of n (1 .. 12)", () -> {
            due("n 1", x.nth(0, 1, 0), 4);
            dueSigns(0, "+-");
            due("n 12, the first", x.nth(9, 12, 0), 3);
            dueSigns(9, "+".repeat(12) + "-".repeat(12));
            due("n 12, the second", x.nth(9, 12, 1), 2);
            dueSigns(9, "+".repeat(11) + "-+" + "-".repeat(11));
            due("n 12, the last but one", x.nth(9, 12, 208010), 2);
            dueSigns(9, "+-".repeat(10) + "++--");
            due("n 12, the last", x.nth(9, 12, 208011), 4);
            dueSigns(9, "+-".repeat(12));
        });
        test(9, "BAD: place, n", () -> {
            for (int place : NO_PLACES) {
                due("place " + place, x.nth(place, 3, 0), BAD);
                due("place " + place + ", ahead of NONE", x.nth(place, 3, -1), BAD);
            }
            for (int n : new int[] {LEAST, -1, 0, 13, MOST}) {
                due("n " + n, x.nth(0, n, 0), BAD);
                due("n " + n + ", ahead of NONE", x.nth(0, n, -1), BAD);
            }
            due("nothing was put", x.count(1), 0);
        });
        test(9, "NONE: there are not so many, or i is below 0", () -> {
            for (int n = 1; n <= 12; n++) {
                due("behind all of " + n, x.nth(0, n, ARCHES_OF[n - 1]), NONE);
                due("below 0", x.nth(0, n, -1), NONE);
            }
            due("the least", x.nth(0, 12, LEAST), NONE);
            due("the greatest", x.nth(0, 12, MOST), NONE);
            due("nothing was put", x.kind(0), NULL);
            x.nth(0, 2, 1);
            x.nth(0, 2, 2);
            due("the old one is there", x.kind(0), 4);
        });
    }

    private static void turns() {
        test(10, "A place has ARCHES of another one TURNED", () -> {
            row(0, "+-++--");
            due("crossing 0 joined to the next", x.turn(1, 0), 3);
            dueSigns(1, "+++---");
            due("crossing 0 joined to the last", x.turn(2, 1), 2);
            dueSigns(2, "++--+-");
            due("onto itself", x.turn(2, 2), 2);
            dueSigns(2, "+-++--");
            dueSigns(0, "+-++--");
        });
        test(10, "A place has ARCHES of another one TURNED", () -> {
            row(0, "+-".repeat(20));
            due("the most crossings", x.turn(0, 0), 2);
            dueSigns(0, "+" + "+-".repeat(19) + "-");
            due("the most crossings", x.turn(0, 0), 4);
            dueSigns(0, "+-".repeat(20));
        });
        test(10, "BAD", () -> {
            shelf();
            for (int place : NO_PLACES) {
                due("to " + place, x.turn(place, NEST), BAD);
                due("of " + place, x.turn(0, place), BAD);
                due("to " + place + ", ahead of NULL", x.turn(place, EMPTY), BAD);
                due("to " + place + ", ahead of KIND", x.turn(place, ROW), BAD);
            }
        });
        test(10, "NULL", () -> {
            due("never there", x.turn(1, 0), NULL);
            x.nth(0, 2, 0);
            x.clear(0);
            due("cleared", x.turn(0, 0), NULL);
            due("nothing was put", x.count(1), 0);
        });
        test(10, "KIND", () -> {
            shelf();
            for (int no : new int[] {ROW, LAND, LOOP, STRIP, FOLD}) {
                due("of kind " + no, x.turn(0, no), KIND);
            }
            due("nothing was put", x.kind(0), NULL);
        });
    }

    private static void mirrors() {
        test(11, "A place has ARCHES, or a LAND (both its ARCHES), of another one MIRRORED", () -> {
            row(0, "+-+++-+---");
            due("arches", x.mirror(1, 0), 2);
            dueSigns(1, "+++-+---+-");
            due("onto itself", x.mirror(1, 1), 2);
            dueSigns(1, "+-+++-+---");
            due("the most crossings", row(2, "+".repeat(19) + "-".repeat(19) + "+-"), 2);
            x.mirror(2, 2);
            dueSigns(2, "+-" + "+".repeat(19) + "-".repeat(19));
        });
        test(11, "A place has ARCHES, or a LAND (both its ARCHES), of another one MIRRORED", () -> {
            row(0, "++-+--+-");
            row(1, "+-+++---");
            x.land(2, 0, 1);
            due("a land keeps its kind", x.mirror(3, 2), x.kind(2));
            for (int p = 0; p < 8; p++) {
                for (int k = 0; k < 9; k++) {
                    int way = x.way(2, p, k);
                    due("way(3, " + (7 - p) + ", " + k + ")", x.way(3, 7 - p, k), way == NONE ? NONE : 7 - way);
                }
            }
        });
        test(11, "BAD", () -> {
            shelf();
            for (int place : NO_PLACES) {
                due("to " + place, x.mirror(place, NEST), BAD);
                due("of " + place, x.mirror(0, place), BAD);
                due("to " + place + ", ahead of NULL", x.mirror(place, EMPTY), BAD);
                due("to " + place + ", ahead of KIND", x.mirror(place, ROW), BAD);
            }
        });
        test(11, "NULL", () -> {
            due("never there", x.mirror(1, 0), NULL);
            x.nth(0, 2, 0);
            x.clear(0);
            due("cleared", x.mirror(0, 0), NULL);
            due("nothing was put", x.count(1), 0);
        });
        test(11, "KIND: neither", () -> {
            shelf();
            for (int no : new int[] {ROW, STRIP, FOLD}) {
                due("of kind " + no, x.mirror(0, no), KIND);
            }
            due("nothing was put", x.kind(0), NULL);
            for (int either : new int[] {ARCHES, NEST, PEAKS, LAND, LOOP}) {
                due("of kind " + either, x.mirror(0, either), either);
            }
        });
        test(12, "A place is empty from now on: 1", () -> {
            shelf();
            for (int place = 1; place < 10; place++) {
                due("clear(" + place + ")", x.clear(place), 1);
                due("empty", x.kind(place), NULL);
                due("all others are there", x.count(1), 9 - place);
            }
        });
        test(12, "0: it was", () -> {
            for (int place = 0; place < 10; place++) {
                due("never there", x.clear(place), 0);
            }
            x.nth(5, 2, 0);
            x.clear(5);
            due("cleared", x.clear(5), 0);
        });
        test(12, "BAD", () -> {
            for (int place : NO_PLACES) {
                due("clear(" + place + ")", x.clear(place), BAD);
            }
        });
    }

    // ---- promises 13 to 17

    private static final String[] TOO = {"", "01", "012", "0123", "0124", "05", "056", "07", "078", "0124"};
    private static final int[] N_OF = {0, 1, 3, 2, 2, 2, 2, 4, 2, 1};

    private static void kinds() {
        test(13, "The KIND of a THING, as it is told", () -> {
            shelf();
            for (int place = 1; place < 10; place++) {
                due("kind(" + place + ")", x.kind(place), place == ONE_ARCH ? 4 : place);
            }
        });
        test(13, "BAD", () -> {
            for (int place : NO_PLACES) {
                due("kind(" + place + ")", x.kind(place), BAD);
            }
        });
        test(13, "NULL", () -> {
            for (int place = 0; place < 10; place++) {
                due("never there", x.kind(place), NULL);
            }
            x.nth(5, 2, 0);
            x.clear(5);
            due("cleared", x.kind(5), NULL);
        });
        test(14, "Whether a THING is of a KIND (0 .. 8): the one as which it is told, or one that this is, too: 1, 0", () -> {
            shelf();
            for (int place = 1; place < 10; place++) {
                for (int kind = 0; kind < 9; kind++) {
                    due("is(" + place + ", " + kind + ")", x.is(place, kind), TOO[place].contains("" + kind) ? 1 : 0);
                }
            }
        });
        test(14, "of nothing 0", () -> {
            for (int kind = 0; kind < 9; kind++) {
                due("is(0, " + kind + ")", x.is(0, kind), 0);
            }
        });
        test(14, "BAD", () -> {
            shelf();
            for (int place : NO_PLACES) {
                due("place " + place, x.is(place, 0), BAD);
            }
            for (int kind : new int[] {LEAST, -1, 9, MOST}) {
                due("kind " + kind, x.is(ROW, kind), BAD);
                due("kind " + kind + " of nothing", x.is(EMPTY, kind), BAD);
            }
        });
        test(15, "A THING is taken as one of a KIND (0 .. 8): its n", () -> {
            shelf();
            for (int place = 1; place < 10; place++) {
                due("the least, of " + place, x.as(place, 0), N_OF[place]);
                due("its own, of " + place, x.as(place, x.kind(place)), N_OF[place]);
            }
            row(0, "+".repeat(40));
            due("the greatest n", x.as(0, 1), 20);
        });
        test(15, "BAD", () -> {
            shelf();
            for (int place : NO_PLACES) {
                due("place " + place, x.as(place, 0), BAD);
            }
            for (int kind : new int[] {LEAST, -1, 9, MOST}) {
                due("kind " + kind, x.as(ROW, kind), BAD);
                due("kind " + kind + ", ahead of NULL", x.as(EMPTY, kind), BAD);
            }
        });
        test(15, "NULL", () -> {
            for (int kind = 0; kind < 9; kind++) {
                due("as(0, " + kind + ")", x.as(0, kind), NULL);
            }
        });
        test(15, "KIND: it is not that, too", () -> {
            shelf();
            for (int place = 1; place < 10; place++) {
                for (int kind = 0; kind < 9; kind++) {
                    boolean too = TOO[place].contains("" + kind);
                    due("as(" + place + ", " + kind + ")", x.as(place, kind), too ? N_OF[place] : KIND);
                }
            }
        });
    }

    private static void asks() {
        test(16, "An ASK (0 .. 2) of a THING", () -> {
            shelf();
            int[][] dues = {{1, 3, 2, 2, 4, 4, 4, 2, 1}, {1, 2, 3, 2, 2, 4, 0, 101, 1}, {4, 12, 10, 12, 7, 7, 7, 4, 9}};
            for (int what = 0; what < 3; what++) {
                for (int place = 1; place < 10; place++) {
                    due("ask(" + place + ", " + what + ")", x.ask(place, what), dues[what][place - 1]);
                }
            }
        });
        test(16, "An ASK (0 .. 2) of a THING", () -> {
            row(0, "+".repeat(20) + "-".repeat(20));
            row(1, "+-".repeat(20));
            due("mark of the greatest nest", x.ask(0, 2), 46);
            due("worth of the greatest nest", x.ask(0, 1), 21);
            due("mark of the greatest peaks", x.ask(1, 2), 66);
            x.turn(2, 1);
            x.land(3, 1, 2);
            due("worth of the greatest loop", x.ask(3, 1), 40);
            x.land(3, 0, 0);
            due("worth of the land with the most loops", x.ask(3, 1), 20);
            strip(4, upTo(20));
            due("mark of the greatest fold", x.ask(4, 2), 22);
        });
        test(16, "BAD", () -> {
            shelf();
            for (int place : NO_PLACES) {
                due("place " + place, x.ask(place, 0), BAD);
            }
            for (int what : new int[] {LEAST, -1, 3, MOST}) {
                due("what " + what, x.ask(ROW, what), BAD);
                due("what " + what + ", ahead of NULL", x.ask(EMPTY, what), BAD);
            }
        });
        test(16, "NULL", () -> {
            for (int what = 0; what < 3; what++) {
                due("ask(0, " + what + ")", x.ask(0, what), NULL);
            }
        });
        test(16, "THE TRACE is empty ahead of it, if it is not BAD", () -> {
            shelf();
            x.ask(PEAKS, 2);
            dueTrace(32, 31, 30, 10, 21);
            x.ask(10, 0);
            x.ask(PEAKS, 3);
            dueTrace(32, 31, 30, 10, 21);
            x.ask(FOLD, 1);
            dueTrace(26, 25);
            x.ask(EMPTY, 1);
            dueTrace();
        });
        test(17, "Number i of THE TRACE", () -> {
            shelf();
            x.ask(LOOP, 1);
            due("the first", x.trace(0), 24);
            due("the last", x.trace(3), 10);
            due("behind it", x.trace(4), NONE);
            x.clear(LOOP);
            x.nth(0, 3, 3);
            due("till the next ask", x.trace(0), 24);
        });
        test(17, "NONE", () -> {
            for (int i : new int[] {LEAST, -1, 0, 1, 15, 16, MOST}) {
                due("trace(" + i + ") at first", x.trace(i), NONE);
            }
            x.nth(0, 2, 1);
            x.ask(0, 2);
            for (int i : new int[] {LEAST, -1, 5, 15, 16, MOST}) {
                due("trace(" + i + ")", x.trace(i), NONE);
            }
        });
    }

    // ---- promises 18 to 22

    private interface Asked {
        int of(int place, int p);
    }

    /** For calls with a place and a number p: what is refused, and what comes ahead of what. */
    private static void refusals(int promise, String number, Asked call, int kind, int... bad) {
        test(promise, "BAD: place", () -> {
            shelf();
            for (int place : NO_PLACES) {
                due("place " + place, call.of(place, 0), BAD);
                due("place " + place + ", p -2", call.of(place, -2), BAD);
            }
        });
        test(promise, "NULL", () -> {
            due("empty", call.of(0, 0), NULL);
            for (int p : bad) {
                due("empty, ahead of p " + p, call.of(0, p), NULL);
            }
            x.nth(0, 2, 0);
            x.clear(0);
            due("cleared", call.of(0, 0), NULL);
        });
        test(promise, "KIND", () -> {
            shelf();
            for (int place = 1; place < 10; place++) {
                boolean is = TOO[place].contains("" + kind);
                due("of " + place, call.of(place, 0) == KIND ? 1 : 0, is ? 0 : 1);
                for (int p : bad) {
                    due("of " + place + ", ahead of p " + p, call.of(place, p), is ? BAD : KIND);
                }
            }
        });
        test(promise, "then BAD: " + number, () -> {
            shelf();
            for (int place = 1; place < 10; place++) {
                if (TOO[place].contains("" + kind)) {
                    int many = kind == 7 ? N_OF[place] : 2 * N_OF[place];
                    due("the last, of " + place, call.of(place, many - 1) != BAD ? 1 : 0, 1);
                    due("behind the last, of " + place, call.of(place, many), BAD);
                    for (int p : bad) {
                        due(p + ", of " + place, call.of(place, p), BAD);
                    }
                }
            }
        });
    }

    private static void signsAndJoins() {
        test(18, "The sign at a crossing of a ROW (1, -1)", () -> {
            row(0, "-" + "+-".repeat(19) + "+");
            due("the first", x.sign(0, 0), -1);
            due("the second", x.sign(0, 1), 1);
            due("the last but one", x.sign(0, 38), -1);
            due("the last", x.sign(0, 39), 1);
            shelf();
            due("of arches, too", x.sign(ARCHES, 5), -1);
            due("of a nest, too", x.sign(NEST, 1), 1);
            due("of peaks, too", x.sign(PEAKS, 1), -1);
        });
        refusals(18, "p", (place, p) -> x.sign(place, p), 1, LEAST, -1, 40, 64, MOST);
        test(19, "The crossing to which one is joined, in ARCHES", () -> {
            shelf();
            dueJoined(ARCHES, 5, 2, 1, 4, 3, 0);
            dueJoined(NEST, 3, 2, 1, 0);
            dueJoined(PEAKS, 1, 0, 3, 2);
            dueJoined(ONE_ARCH, 1, 0);
            row(0, "+".repeat(20) + "-".repeat(20));
            for (int p = 0; p < 40; p++) {
                due("of 20, " + p, x.joined(0, p), 39 - p);
            }
        });
        refusals(19, "p", (place, p) -> x.joined(place, p), 2, LEAST, -1, 40, 64, MOST);
    }

    private static void ranks() {
        test(20, "The place of ARCHES in ORDER", () -> {
            for (int n = 1; n <= 12; n++) {
                row(0, "+".repeat(n) + "-".repeat(n));
                due("the first of " + n, x.rank(0), 0);
                row(0, "+-".repeat(n));
                due("the last of " + n, x.rank(0), ARCHES_OF[n - 1] - 1);
            }
        });
        test(20, "The place of ARCHES in ORDER", () -> {
            String[] ofThree = {"+++---", "++-+--", "++--+-", "+-++--", "+-+-+-"};
            for (int i = 0; i < 5; i++) {
                row(0, ofThree[i]);
                due(ofThree[i], x.rank(0), i);
            }
            row(0, "+".repeat(11) + "-+" + "-".repeat(11));
            due("the second of 12", x.rank(0), 1);
            row(0, "+-".repeat(10) + "++--");
            due("the last but one of 12", x.rank(0), 208010);
        });
        test(20, "BAD: place", () -> {
            for (int place : NO_PLACES) {
                due("rank(" + place + ")", x.rank(place), BAD);
            }
        });
        test(20, "NULL", () -> {
            due("never there", x.rank(0), NULL);
            x.nth(0, 2, 0);
            x.clear(0);
            due("cleared", x.rank(0), NULL);
        });
        test(20, "KIND", () -> {
            shelf();
            for (int no : new int[] {ROW, LAND, LOOP, STRIP, FOLD}) {
                due("of kind " + no, x.rank(no), KIND);
            }
            row(0, "-+".repeat(13));
            due("ahead of FULL", x.rank(0), KIND);
        });
        test(20, "then FULL: n is above 12", () -> {
            row(0, "+-".repeat(12));
            due("n 12", x.rank(0), 208011);
            row(0, "+-".repeat(13));
            due("n 13, the last", x.rank(0), FULL);
            row(0, "+".repeat(13) + "-".repeat(13));
            due("n 13, the first", x.rank(0), FULL);
            row(0, "+".repeat(20) + "-".repeat(20));
            due("n 20", x.rank(0), FULL);
            due("it is there, all the same", x.kind(0), 3);
        });
    }

    private static void loops() {
        test(21, "How many loops a LAND has (p = -1)", () -> {
            shelf();
            due("one", x.loops(LOOP, -1), 1);
            due("two", x.loops(LAND, -1), 2);
            x.land(0, ONE_ARCH, ONE_ARCH);
            due("of one arch", x.loops(0, -1), 1);
            row(1, "+-".repeat(20));
            x.land(0, 1, 1);
            due("the most", x.loops(0, -1), 20);
            x.turn(2, 1);
            x.land(0, 1, 2);
            due("the fewest", x.loops(0, -1), 1);
        });
        test(21, "the number of the loop of crossing p", () -> {
            row(0, "++-+--");
            row(1, "+-++--");
            x.land(2, 0, 1);
            int[] numbers = {0, 0, 0, 1, 1, 0};
            for (int p = 0; p < 6; p++) {
                due("loops(2, " + p + ")", x.loops(2, p), numbers[p]);
            }
        });
        refusals(21, "p", (place, p) -> x.loops(place, p), 5, LEAST, -2, 40, MOST);
    }

    private static void ways() {
        test(22, "The k-th crossing (0-th: p) as one goes from p, OVER first, till one is back", () -> {
            row(0, "++-+--");
            row(1, "+-++--");
            x.land(2, 0, 1);
            int[][] ways = {{0, 5, 2, 1}, {1, 2, 5, 0}, {2, 1, 0, 5}, {3, 4}, {4, 3}, {5, 0, 1, 2}};
            for (int p = 0; p < 6; p++) {
                for (int k = 0; k < 7; k++) {
                    due("way(2, " + p + ", " + k + ")", x.way(2, p, k), k < ways[p].length ? ways[p][k] : NONE);
                }
            }
        });
        test(22, "The k-th crossing (0-th: p) as one goes from p, OVER first, till one is back", () -> {
            row(0, "+-".repeat(20));
            x.turn(1, 0);
            x.land(2, 0, 1);
            for (int k = 0; k < 40; k++) {
                due("the longest loop, " + k, x.way(2, 0, k), k);
                due("the longest loop, the other way, " + k, x.way(2, 39, k), 39 - k);
            }
        });
        refusals(22, "p", (place, p) -> x.way(place, p, 0), 5, LEAST, -1, 40, MOST);
        test(22, "then BAD: p", () -> {
            shelf();
            for (int k : new int[] {LEAST, -1, 4, MOST}) {
                due("ahead of NONE, k " + k, x.way(LOOP, -1, k), BAD);
                due("ahead of NONE, k " + k, x.way(LOOP, 4, k), BAD);
            }
        });
        test(22, "NONE: the loop has not so many, or k is below 0", () -> {
            shelf();
            due("the last of a loop", x.way(LOOP, 0, 3) >= 0 ? 1 : 0, 1);
            due("behind the last of a loop", x.way(LOOP, 0, 4), NONE);
            due("the last of one of two loops", x.way(LAND, 0, 1), 3);
            due("behind the last of one of two loops", x.way(LAND, 0, 2), NONE);
            due("as many as there are crossings", x.way(LAND, 0, 4), NONE);
            due("once more around", x.way(LAND, 0, 3), NONE);
            due("the greatest", x.way(LOOP, 0, MOST), NONE);
            due("below 0", x.way(LOOP, 0, -1), NONE);
            due("the least", x.way(LOOP, 0, LEAST), NONE);
            row(0, "+-".repeat(20));
            x.turn(1, 0);
            x.land(2, 0, 1);
            due("the last of 40", x.way(2, 0, 39), 39);
            due("behind the last of 40", x.way(2, 0, 40), NONE);
        });
    }

    // ---- promises 23 to 31

    private static void counted() {
        test(23, "How many LANDS of n (1 .. 7) have k loops", () -> {
            for (int n = 1; n <= 7; n++) {
                due("without loops, of " + n, x.lands(n, 0), 0);
                due("with as many loops as can be, of " + n, x.lands(n, n), ARCHES_OF[n - 1]);
                due("with more, of " + n, x.lands(n, n + 1), 0);
                due("with the greatest number, of " + n, x.lands(n, MOST), 0);
                int all = 0;
                for (int k = 0; k <= n; k++) {
                    all += x.lands(n, k);
                }
                due("in all, of " + n, all, ARCHES_OF[n - 1] * ARCHES_OF[n - 1]);
            }
            int[] loops = {1, 2, 8, 42, 262, 1828, 13820};
            for (int n = 1; n <= 7; n++) {
                due("with one loop, of " + n, x.lands(n, 1), loops[n - 1]);
            }
        });
        test(23, "BAD: n, k below 0", () -> {
            for (int n : new int[] {LEAST, -1, 0, 8, MOST}) {
                due("lands(" + n + ", 1)", x.lands(n, 1), BAD);
            }
            for (int n = 1; n <= 7; n++) {
                due("lands(" + n + ", -1)", x.lands(n, -1), BAD);
                due("lands(" + n + ", least)", x.lands(n, LEAST), BAD);
            }
        });
        test(24, "How many LOOPS of n (1 .. 5) there are, ALIKE ones taken as one", () -> {
            int[] unlike = {1, 1, 2, 4, 14};
            for (int n = 1; n <= 5; n++) {
                due("unlike(" + n + ")", x.unlike(n), unlike[n - 1]);
            }
        });
        test(24, "BAD", () -> {
            for (int n : new int[] {LEAST, -1, 0, 6, MOST}) {
                due("unlike(" + n + ")", x.unlike(n), BAD);
            }
        });
        test(25, "The sum over all LANDS of n (1 .. 7) of q (-9 .. 9) to the power of their loops", () -> {
            for (int n = 1; n <= 7; n++) {
                for (int q = -9; q <= 9; q++) {
                    long want = 0;
                    for (int k = n; k > 0; k--) {
                        want = (want + new RiverRoad().lands(n, k)) * q;
                    }
                    due("sum(" + n + ", " + q + ")", x.sum(n, q), want);
                }
            }
            due("beyond an int", x.sum(7, 9), 5540310945L);
            due("far below 0", x.sum(7, -9), -715068369L);
        });
        test(25, "BAD as a long", () -> {
            for (int n : new int[] {LEAST, -1, 0, 8, MOST}) {
                due("sum(" + n + ", 1)", x.sum(n, 1), -1000001L);
            }
            for (int q : new int[] {LEAST, -10, 10, MOST}) {
                due("sum(7, " + q + ")", x.sum(7, q), -1000001L);
            }
        });
    }

    private static void stampsAndClashes() {
        test(26, "The STAMP at place k of a STRIP", () -> {
            strip(0, 4, 0, 3, 1, 2);
            dueStamps(0, 4, 0, 3, 1, 2);
            strip(0, upTo(20));
            due("the first of 20", x.stamp(0, 0), 0);
            due("the last of 20", x.stamp(0, 19), 19);
        });
        refusals(26, "k", (place, k) -> x.stamp(place, k), 7, LEAST, -1, 20, MOST);
        test(27, "Of the first two joints for which a STRIP does not FOLD (i the least, then j): i (which = 0), j (1)", () -> {
            int[][] dues = {
                {0, 2, 0, 2, 1, 3}, {0, 2, 4, 0, 3, 1, 2}, {1, 3, 0, 2, 3, 1, 4, 5}, {0, 4, 0, 2, 3, 4, 1, 5},
                {0, 2, 0, 2, 4, 1, 3, 5}, {2, 4, 0, 1, 2, 4, 3, 5}, {1, 3, 0, 1, 3, 2, 4},
            };
            for (int[] each : dues) {
                int[] order = new int[each.length - 2];
                System.arraycopy(each, 2, order, 0, order.length);
                due("a strip", strip(0, order), 7);
                due("i", x.clash(0, 0), each[0]);
                due("j", x.clash(0, 1), each[1]);
            }
        });
        test(27, "NONE: it FOLDS", () -> {
            strip(0, 0);
            strip(1, upTo(20));
            strip(2, 0, 3, 2, 1, 4);
            for (int place = 0; place < 3; place++) {
                due("i of " + place, x.clash(place, 0), NONE);
                due("j of " + place, x.clash(place, 1), NONE);
            }
        });
        test(27, "BAD: place, which", () -> {
            shelf();
            for (int place : NO_PLACES) {
                due("place " + place, x.clash(place, 0), BAD);
            }
            for (int which : new int[] {LEAST, -1, 2, MOST}) {
                due("which " + which, x.clash(STRIP, which), BAD);
                due("which " + which + ", of a fold", x.clash(FOLD, which), BAD);
                due("which " + which + ", ahead of NULL", x.clash(EMPTY, which), BAD);
                due("which " + which + ", ahead of KIND", x.clash(NEST, which), BAD);
            }
        });
        test(27, "NULL", () -> {
            due("i", x.clash(0, 0), NULL);
            due("j", x.clash(0, 1), NULL);
            x.nthFold(0, 2, 0);
            x.clear(0);
            due("cleared", x.clash(0, 0), NULL);
        });
        test(27, "KIND", () -> {
            shelf();
            for (int no : new int[] {ROW, ARCHES, NEST, PEAKS, LAND, LOOP}) {
                due("i, of kind " + no, x.clash(no, 0), KIND);
                due("j, of kind " + no, x.clash(no, 1), KIND);
            }
        });
    }

    private static void folds() {
        test(28, "How many FOLDS of n (1 .. 8) STAMPS there are", () -> {
            for (int n = 1; n <= 8; n++) {
                due("folds(" + n + ")", x.folds(n), FOLDS_OF[n - 1]);
            }
        });
        test(28, "BAD", () -> {
            for (int n : new int[] {LEAST, -1, 0, 9, MOST}) {
                due("folds(" + n + ")", x.folds(n), BAD);
            }
        });
        test(29, "A place has the i-th FOLD of n (1 .. 8) STAMPS, in ORDER: its KIND", () -> {
            for (int n = 1; n <= 8; n++) {
                due("the first of " + n, x.nthFold(0, n, 0), 8);
                dueStamps(0, upTo(n));
                due("the last of " + n, x.nthFold(9, n, FOLDS_OF[n - 1] - 1), 8);
                for (int k = 0; k < n; k++) {
                    due("the last of " + n, x.stamp(9, k), n - 1 - k);
                }
                due("it folds", x.clash(9, 0), NONE);
            }
        });
        test(29, "A place has the i-th FOLD of n (1 .. 8) STAMPS, in ORDER: its KIND", () -> {
            // Those of 4 that begin with 0 or 1: without 0 2 1 3, 0 3 1 2, 1 2 0 3 and 1 3 0 2.
            int[][] ofFour = {
                {0, 1, 2, 3}, {0, 1, 3, 2}, {0, 2, 3, 1}, {0, 3, 2, 1},
                {1, 0, 2, 3}, {1, 0, 3, 2}, {1, 2, 3, 0}, {1, 3, 2, 0},
            };
            for (int i = 0; i < 8; i++) {
                due("the " + i + "-th of 4", x.nthFold(0, 4, i), 8);
                dueStamps(0, ofFour[i]);
            }
        });
        test(29, "BAD: place, n", () -> {
            for (int place : NO_PLACES) {
                due("place " + place, x.nthFold(place, 3, 0), BAD);
                due("place " + place + ", ahead of NONE", x.nthFold(place, 3, -1), BAD);
            }
            for (int n : new int[] {LEAST, -1, 0, 9, MOST}) {
                due("n " + n, x.nthFold(0, n, 0), BAD);
                due("n " + n + ", ahead of NONE", x.nthFold(0, n, -1), BAD);
            }
            due("nothing was put", x.count(1), 0);
        });
        test(29, "NONE: there are not so many, or i is below 0", () -> {
            for (int n = 1; n <= 8; n++) {
                due("behind all of " + n, x.nthFold(0, n, FOLDS_OF[n - 1]), NONE);
                due("below 0, of " + n, x.nthFold(0, n, -1), NONE);
                due("the greatest, of " + n, x.nthFold(0, n, MOST), NONE);
                due("the least, of " + n, x.nthFold(0, n, LEAST), NONE);
            }
            due("nothing was put", x.kind(0), NULL);
        });
    }

    private static void dueCounts(int... many) {
        for (int what = 0; what < 5; what++) {
            due("count(" + what + ")", x.count(what), many[what]);
        }
    }

    private static void counts() {
        String words = "How many: 0 SHEETS, 1 THINGS, 2 ROWS (ARCHES, NESTS, PEAKS, too), 3 LANDS (LOOPS, too), "
            + "4 STRIPS (FOLDS, too)";
        test(30, words, () -> {
            dueCounts(0, 0, 0, 0, 0);
            shelf();
            dueCounts(3, 9, 5, 2, 2);
        });
        test(30, words, () -> {
            for (int sheet = 0; sheet < 8; sheet++) {
                x.sheet(sheet, 0, 0);
            }
            for (int place = 0; place < 10; place++) {
                x.nth(place, 2, 0);
            }
            dueCounts(8, 10, 10, 0, 0);
            x.land(0, 0, 0);
            dueCounts(8, 10, 9, 1, 0);
            x.nthFold(0, 2, 0);
            dueCounts(8, 10, 9, 0, 1);
            x.clear(0);
            x.drop(7);
            x.drop(7);
            dueCounts(7, 9, 9, 0, 0);
        });
        for (int place = 1; place < 10; place++) {
            int only = place;
            test(30, words, () -> {
                shelf();
                for (int other = 1; other < 10; other++) {
                    if (other != only) {
                        x.clear(other);
                    }
                }
                int rows = TOO[only].contains("1") ? 1 : 0;
                int lands = TOO[only].contains("5") ? 1 : 0;
                dueCounts(3, 1, rows, lands, 1 - rows - lands);
            });
        }
        test(30, "BAD", () -> {
            for (int what : new int[] {LEAST, -1, 5, MOST}) {
                due("count(" + what + ")", x.count(what), BAD);
            }
        });
    }

    /** Leaves a FINDING, then calls; status() tells then what is due. */
    private static void dueStatus(String told, int status, Call call) {
        due("a finding ahead of " + told, x.set(7, 50, 0), PLACE);
        call.on(x);
        due("status() behind " + told, x.status(), status);
    }

    private static void statuses() {
        String words = "Of the latest call with a SHEET or a place (but clear(), is()) that was not BAD, STATE, FULL: "
            + "the number of its FINDING";
        for (Refused refused : REFUSED) {
            test(31, words, () -> {
                shelf();
                dueStatus(refused.told, statusBehind(refused, 2), refused.call);
                due("told twice", x.status(), statusBehind(refused, 2));
            });
        }
        test(31, words, () -> {
            row(0, "+-".repeat(13));
            dueStatus("FULL", 2, y -> y.rank(0));
            dueStatus("BAD", 2, y -> y.rank(10));
        });
        test(31, words, () -> {
            shelf();
            dueStatus("clear of a thing", 2, y -> y.clear(ROW));
            dueStatus("clear of nothing", 2, y -> y.clear(EMPTY));
            dueStatus("is", 2, y -> y.is(NEST, 3));
            dueStatus("is not", 2, y -> y.is(NEST, 4));
            dueStatus("is of nothing", 2, y -> y.is(EMPTY, 4));
            dueStatus("trace", 2, y -> y.trace(0));
            dueStatus("lands", 2, y -> y.lands(3, 1));
            dueStatus("unlike", 2, y -> y.unlike(3));
            dueStatus("sum", 2, y -> y.sum(3, 1));
            dueStatus("folds", 2, y -> y.folds(3));
            dueStatus("count", 2, y -> y.count(0));
            dueStatus("status", 2, y -> y.status());
        });
        test(31, "0: it had none, or there was none", () -> {
            due("there was none", x.status(), 0);
            x.set(8, 0, 0);
            x.kind(10);
            due("there was none but BAD ones", x.status(), 0);
            x.clear(0);
            x.is(0, 0);
            x.trace(0);
            x.folds(3);
            due("there was none with a place", x.status(), 0);
        });
        test(31, "0: it had none, or there was none", () -> {
            shelf();
            items(7, 2, 1, -1, 0);
            dueStatus("sheet", 0, y -> y.sheet(0, 0, 1));
            dueStatus("sheet of none", 0, y -> y.sheet(0, 0, 0));
            dueStatus("set", 0, y -> y.set(1, 0, 0));
            dueStatus("set of what looks like a finding", 0, y -> y.set(2, 0, NULL));
            dueStatus("set of what looks like BAD", 0, y -> y.set(2, 0, BAD));
            dueStatus("set of what looks like FULL", 0, y -> y.set(2, 0, FULL));
            dueStatus("copy", 0, y -> y.copy(1, 0, 1, 1, 1));
            dueStatus("copy of none", 0, y -> y.copy(1, 0, 1, 1, 0));
            dueStatus("drop", 0, y -> y.drop(1));
            dueStatus("row", 0, y -> y.row(0, 7, 0, 1));
            dueStatus("land", 0, y -> y.land(0, NEST, PEAKS));
            dueStatus("strip", 0, y -> y.strip(0, 7, 2, 1));
            dueStatus("nth", 0, y -> y.nth(0, 3, 1));
            dueStatus("turn", 0, y -> y.turn(0, 0));
            dueStatus("mirror", 0, y -> y.mirror(0, 0));
            dueStatus("mirror of a land", 0, y -> y.mirror(0, LAND));
            dueStatus("kind", 0, y -> y.kind(ROW));
            dueStatus("as", 0, y -> y.as(ROW, 0));
            for (int what = 0; what < 3; what++) {
                int asked = what;
                dueStatus("ask " + what, 0, y -> y.ask(NEST, asked));
            }
            dueStatus("sign", 0, y -> y.sign(ROW, 0));
            dueStatus("joined", 0, y -> y.joined(NEST, 0));
            dueStatus("rank", 0, y -> y.rank(NEST));
            dueStatus("how many loops", 0, y -> y.loops(LAND, -1));
            dueStatus("loops", 0, y -> y.loops(LAND, 3));
            dueStatus("way", 0, y -> y.way(LAND, 0, 1));
            dueStatus("stamp", 0, y -> y.stamp(FOLD, 1));
            dueStatus("clash", 0, y -> y.clash(STRIP, 1));
            dueStatus("nthFold", 0, y -> y.nthFold(0, 3, 3));
        });
    }

    // ---- the document

    /** Every sentence of a promise has a test under its words; every test's words are the document's. */
    private static void lookUp(Path document) throws IOException {
        if (!Files.isRegularFile(document)) {
            System.out.println("there is no " + document + ": the sentences are not looked up");
            return;
        }
        String text = Files.readString(document);
        String plain = text.replaceAll("\\s+", " ");
        for (String words : TESTED.get(TERMS)) {
            dueWords(plain.contains(words), "the document doesn't say: " + words);
        }
        for (int promise = 1; promise <= PROMISES; promise++) {
            Set<String> sentences = sentencesOf(text, promise);
            Set<String> tested = TESTED.getOrDefault(promise, Set.of());
            dueWords(!sentences.isEmpty(), "the document has no promise " + promise);
            for (String words : sentences) {
                dueWords(tested.contains(words), "promise " + promise + " has no test for: " + words);
            }
            for (String words : tested) {
                dueWords(sentences.contains(words), "promise " + promise + " doesn't say: " + words);
            }
        }
    }

    private static void dueWords(boolean holds, String otherwise) {
        if (!holds) {
            wrong++;
            System.out.println(otherwise);
        }
    }

    /** What a promise says behind its signature, cut at each semicolon and full stop (but not at ..). */
    private static Set<String> sentencesOf(String text, int promise) {
        Set<String> sentences = new TreeSet<>();
        Matcher section = Pattern.compile("## Promise " + promise + ": [^\n]*\n\\s*`[^`]*`: ([^\n]*)").matcher(text);
        if (section.find()) {
            for (String piece : section.group(1).split("(?<!\\.)\\.(?=\\s|$)|;")) {
                if (!piece.isBlank()) {
                    sentences.add(piece.trim());
                }
            }
        }
        return sentences;
    }
}
