/** For each promise of the document: ordinary inputs, the edges that it names, and what it refuses. */
public final class Promises {
    private static final int NONE = -1000000, BAD = -1000001, FULL = -1000003;
    private static final int NULL = -1000011, PLACE = -1000012, KIND = -1000013, SIZE = -1000014, STORE = -1000015;
    private static final int LEAST = Integer.MIN_VALUE, MOST = Integer.MAX_VALUE;

    private static int wrong = 0;

    private static void due(int promise, String what, long got, long want) {
        if (got != want) {
            wrong++;
            System.out.println("promise " + promise + ": " + what + " answered " + got + ", due is " + want);
        }
    }

    /** A SHEET 7 of ints, with these ITEMS. */
    private static void items(RiverRoad x, int... values) {
        due(2, "sheet(7, 2, ..)", x.sheet(7, 2, values.length), values.length);
        for (int i = 0; i < values.length; i++) {
            due(3, "set(7, ..)", x.set(7, i, values[i]), values[i]);
        }
    }

    private static int row(RiverRoad x, int place, String signs) {
        int[] values = new int[signs.length()];
        for (int i = 0; i < values.length; i++) {
            values[i] = signs.charAt(i) == '+' ? i + 1 : -i - 1;
        }
        items(x, values);
        return x.row(place, 7, 0, values.length / 2);
    }

    private static int strip(RiverRoad x, int place, int... stamps) {
        items(x, stamps);
        return x.strip(place, 7, 0, stamps.length);
    }

    private static String signs(RiverRoad x, int place) {
        StringBuilder text = new StringBuilder();
        for (int p = 0; x.sign(place, p) != BAD; p++) {
            text.append(x.sign(place, p) == 1 ? '+' : '-');
        }
        return text.toString();
    }

    private static void dueSigns(int promise, RiverRoad x, int place, String want) {
        String got = signs(x, place);
        due(promise, "signs " + got + " for " + want, got.equals(want) ? 1 : 0, 1);
    }

    private static void dueTrace(RiverRoad x, String ask, int... numbers) {
        for (int i = 0; i < numbers.length; i++) {
            due(17, "trace(" + i + ") behind " + ask, x.trace(i), numbers[i]);
        }
        due(17, "the end of the trace behind " + ask, x.trace(numbers.length), NONE);
    }

    public static void main(String[] args) {
        newObject();
        sheets();
        copies();
        rows();
        rowsRefused();
        landsMade();
        stripsMade();
        nths();
        turnsAndMirrors();
        clears();
        kinds();
        asksOfRows();
        asksOfLandsAndStrips();
        traces();
        signsAndJoins();
        ranks();
        loopsAndWays();
        countsOfLands();
        stampsAndClashes();
        folds();
        counts();
        statuses();
        nothingChanges();
        System.out.println(wrong == 0 ? "all promises hold" : wrong + " answers are not as due");
        if (wrong != 0) {
            System.exit(1);
        }
    }

    private static void newObject() {
        RiverRoad x = new RiverRoad();
        for (int i = 0; i < 8; i++) {
            due(1, "drop", x.drop(i), NULL);
        }
        x = new RiverRoad();
        due(1, "status", x.status(), 0);
        due(1, "trace", x.trace(0), NONE);
        for (int what = 0; what < 5; what++) {
            due(1, "count", x.count(what), 0);
        }
        for (int place = 0; place < 10; place++) {
            due(1, "clear", x.clear(place), 0);
        }
    }

    private static void sheets() {
        RiverRoad x = new RiverRoad();
        due(2, "sheet(0, 0, 0)", x.sheet(0, 0, 0), 0);
        due(2, "sheet(7, 2, 100)", x.sheet(7, 2, 100), 100);
        due(2, "sheet(7, 2, 101)", x.sheet(7, 2, 101), BAD);
        due(2, "sheet(8, 2, 1)", x.sheet(8, 2, 1), BAD);
        due(2, "sheet(-1, 2, 1)", x.sheet(-1, 2, 1), BAD);
        due(2, "sheet(0, 3, 1)", x.sheet(0, 3, 1), BAD);
        due(2, "sheet(0, -1, 1)", x.sheet(0, -1, 1), BAD);
        due(2, "sheet(0, 0, -1)", x.sheet(0, 0, -1), SIZE);
        due(2, "sheet(0, 0, least)", x.sheet(0, 0, LEAST), SIZE);
        due(2, "BAD comes ahead of SIZE", x.sheet(0, 3, -1), BAD);
        due(2, "BAD comes ahead of SIZE", x.sheet(8, 0, -1), BAD);
        due(2, "refused sheets leave the old one", x.set(7, 99, 5), 5);
        due(2, "a new sheet in place of the old", x.sheet(7, 2, 100), 100);
        due(2, "items are 0 at first", x.strip(0, 7, 99, 1), 8);

        due(3, "ints", x.set(7, 0, LEAST), LEAST);
        due(3, "ints", x.set(7, 0, MOST), MOST);
        due(3, "no place in a sheet of none", x.set(0, 0, 1), PLACE);
        due(3, "the end", x.set(7, 100, 1), PLACE);
        due(3, "ahead of it", x.set(7, -1, 1), PLACE);
        due(3, "missing", x.set(1, -1, 1), NULL);
        due(3, "no such sheet", x.set(8, 0, 1), BAD);
        due(3, "no such sheet", x.set(-1, 0, 1), BAD);
        x.sheet(1, 0, 1);
        x.sheet(2, 1, 1);
        due(3, "bytes", x.set(1, 0, 127), 127);
        due(3, "bytes", x.set(1, 0, 128), -128);
        due(3, "bytes", x.set(1, 0, 256), 0);
        due(3, "bytes", x.set(1, 0, -129), 127);
        due(3, "shorts", x.set(2, 0, 32767), 32767);
        due(3, "shorts", x.set(2, 0, 32768), -32768);
        due(3, "shorts", x.set(2, 0, 65536), 0);
        due(3, "shorts", x.set(2, 0, -32769), 32767);

        due(5, "drop", x.drop(7), 100);
        due(5, "it is missing", x.drop(7), NULL);
        due(5, "it is missing", x.set(7, 0, 0), NULL);
        due(5, "a sheet of none", x.drop(0), 0);
        due(5, "no such sheet", x.drop(8), BAD);
        due(5, "no such sheet", x.drop(-1), BAD);
    }

    private static void copies() {
        RiverRoad x = new RiverRoad();
        items(x, 0, 1, 2, 3, 4, 5);
        due(4, "forward, over itself", x.copy(7, 0, 7, 2, 4), 4);
        due(4, "as they were ahead", x.strip(0, 7, 2, 4), 8);
        for (int k = 0; k < 4; k++) {
            due(4, "as they were ahead", x.stamp(0, k), k);
        }
        due(4, "backward, over itself", x.copy(7, 2, 7, 1, 4), 4);
        due(4, "as they were ahead", x.strip(0, 7, 1, 4), 8);
        x.sheet(6, 2, 2);
        due(4, "to another", x.copy(7, 1, 6, 0, 2), 2);
        due(4, "to another", x.strip(1, 6, 0, 2), 8);
        due(4, "to another", x.stamp(1, 1), 1);
        due(4, "none, at the ends", x.copy(7, 6, 6, 2, 0), 0);
        due(4, "beyond the end of a", x.copy(7, 7, 6, 2, 0), PLACE);
        due(4, "beyond the end of b", x.copy(7, 6, 6, 3, 0), PLACE);
        due(4, "beyond the end of a", x.copy(6, 1, 7, 0, 2), PLACE);
        due(4, "beyond the end of b", x.copy(7, 0, 6, 1, 2), PLACE);
        due(4, "i below 0", x.copy(7, -1, 6, 0, 1), PLACE);
        due(4, "j below 0", x.copy(7, 0, 6, -1, 1), PLACE);
        due(4, "n below 0", x.copy(7, 0, 6, 0, -1), PLACE);
        due(4, "n below 0", x.copy(7, 3, 6, 2, LEAST), PLACE);
        due(4, "the greatest numbers", x.copy(7, MOST, 6, MOST, MOST), PLACE);
        due(4, "the greatest numbers", x.copy(7, 1, 6, 1, MOST), PLACE);
        x.sheet(5, 1, 9);
        due(4, "two lanes", x.copy(7, 0, 5, 0, 0), STORE);
        due(4, "STORE comes ahead of PLACE", x.copy(5, -1, 7, 99, -9), STORE);
        due(4, "NULL comes ahead of STORE and PLACE", x.copy(5, -1, 4, 99, -9), NULL);
        due(4, "NULL comes ahead of STORE and PLACE", x.copy(4, -1, 5, 99, -9), NULL);
        due(4, "BAD comes first", x.copy(4, 0, 8, 0, 0), BAD);
        due(4, "BAD comes first", x.copy(-1, 0, 4, 0, 0), BAD);
    }

    private static void rows() {
        RiverRoad x = new RiverRoad();
        due(6, "+-", row(x, 0, "+-"), 4);
        due(6, "++--", row(x, 0, "++--"), 3);
        due(6, "+-+-", row(x, 0, "+-+-"), 4);
        due(6, "+--+", row(x, 0, "+--+"), 1);
        due(6, "-+-+", row(x, 0, "-+-+"), 1);
        due(6, "+++-", row(x, 0, "+++-"), 1);
        due(6, "-+", row(x, 0, "-+"), 1);
        due(6, "++", row(x, 0, "++"), 1);
        due(6, "++-+--", row(x, 0, "++-+--"), 2);
        due(6, "++--+-", row(x, 0, "++--+-"), 2);
        due(6, "+-++--", row(x, 9, "+-++--"), 2);
        dueSigns(6, x, 9, "+-++--");
        due(6, "20 arches", row(x, 0, "++++++++++++++++++++--------------------"), 3);
        due(6, "20 arches", row(x, 0, "+-+-+-+-+-+-+-+-+-+-+-+-+-+-+-+-+-+-+-+-"), 4);
        dueSigns(6, x, 0, "+-+-+-+-+-+-+-+-+-+-+-+-+-+-+-+-+-+-+-+-");
        items(x, 0, LEAST, MOST, 9, -9, 0);
        due(6, "from i on", x.row(1, 7, 2, 1), 1);
        dueSigns(6, x, 1, "++");
        due(6, "from i on", x.row(1, 7, 3, 1), 4);
        due(6, "a row is its own, whatever the sheet does", x.set(7, 3, -1), -1);
        dueSigns(6, x, 1, "+-");
    }

    private static void rowsRefused() {
        RiverRoad x = new RiverRoad();
        items(x, 0, LEAST, MOST, 9, -9, 0);
        due(6, "an item is 0", x.row(1, 7, 0, 1), BAD);
        due(6, "the last item is 0", x.row(1, 7, 4, 1), BAD);
        due(6, "the place stays empty", x.kind(1), NULL);
        due(6, "beyond the end", x.row(1, 7, 5, 1), PLACE);
        due(6, "beyond the end", x.row(1, 7, 0, 4), PLACE);
        due(6, "PLACE comes ahead of a 0", x.row(1, 7, 1, 3), PLACE);
        due(6, "i below 0", x.row(1, 7, -1, 1), PLACE);
        due(6, "i the greatest", x.row(1, 7, MOST, 20), PLACE);
        due(6, "i the least", x.row(1, 7, LEAST, 20), PLACE);
        due(6, "missing", x.row(1, 6, -1, 20), NULL);
        due(6, "n", x.row(1, 6, 0, 0), BAD);
        due(6, "n", x.row(1, 6, 0, 21), BAD);
        due(6, "n", x.row(1, 6, 0, LEAST), BAD);
        due(6, "place", x.row(10, 6, 0, 1), BAD);
        due(6, "place", x.row(-1, 6, 0, 1), BAD);
        due(6, "sheet", x.row(0, 8, 0, 1), BAD);
        due(6, "sheet", x.row(0, -1, 0, 1), BAD);
    }

    private static void landsMade() {
        RiverRoad x = new RiverRoad();
        row(x, 0, "++--");
        row(x, 1, "+-+-");
        row(x, 2, "+-");
        row(x, 3, "-+-+");
        strip(x, 4, 0);
        due(7, "a loop", x.land(5, 0, 1), 6);
        due(7, "two loops", x.land(6, 1, 1), 5);
        due(7, "one arch", x.land(7, 2, 2), 6);
        due(7, "unlike n", x.land(8, 0, 2), BAD);
        due(7, "over is empty", x.land(8, 9, 0), NULL);
        due(7, "under is empty", x.land(8, 0, 9), NULL);
        due(7, "over is a row", x.land(8, 3, 0), KIND);
        due(7, "under is a row", x.land(8, 0, 3), KIND);
        due(7, "over is a land", x.land(8, 5, 0), KIND);
        due(7, "over is a strip", x.land(8, 4, 0), KIND);
        due(7, "over comes first", x.land(8, 9, 3), NULL);
        due(7, "over comes first", x.land(8, 3, 9), KIND);
        due(7, "BAD comes first", x.land(10, 9, 9), BAD);
        due(7, "BAD comes first", x.land(0, 9, 10), BAD);
        due(7, "BAD comes first", x.land(0, -1, 9), BAD);
        due(7, "nothing was put", x.kind(8), NULL);
        due(7, "in place of its own over", x.land(0, 0, 1), 6);
        due(7, "the land keeps what it had", x.way(0, 0, 1), 3);
        x.clear(1);
        due(7, "the land keeps what it had", x.way(0, 0, 2), 2);
    }

    private static void stripsMade() {
        RiverRoad x = new RiverRoad();
        due(8, "0", strip(x, 0, 0), 8);
        due(8, "1 0", strip(x, 0, 1, 0), 8);
        due(8, "2 0 1", strip(x, 0, 2, 0, 1), 8);
        due(8, "0 2 1 3", strip(x, 0, 0, 2, 1, 3), 7);
        due(8, "0 2 3 1", strip(x, 0, 0, 2, 3, 1), 8);
        due(8, "20 stamps", strip(x, 1, 0, 1, 2, 3, 4, 5, 6, 7, 8, 9, 10, 11, 12, 13, 14, 15, 16, 17, 18, 19), 8);
        due(8, "20 stamps, not 0 to 18", x.strip(1, 7, 1, 19), BAD);
        due(8, "twice", strip(x, 0, 0, 0), BAD);
        due(8, "below 0", strip(x, 0, 0, -1), BAD);
        due(8, "above n - 1", strip(x, 0, 0, 2), BAD);
        due(8, "far off", strip(x, 0, 0, 32), BAD);
        due(8, "far off", strip(x, 0, 33, 0), BAD);
        due(8, "the old one is there", x.kind(0), 8);
        items(x, 9, 1, 0, 9);
        due(8, "from i on", x.strip(2, 7, 1, 2), 8);
        due(8, "from i on", x.stamp(2, 0), 1);
        x.set(7, 1, 0);
        due(8, "a strip is its own", x.stamp(2, 0), 1);
        due(8, "PLACE comes ahead of the items", x.strip(2, 7, 3, 2), PLACE);
        due(8, "i below 0", x.strip(2, 7, -1, 2), PLACE);
        due(8, "i the greatest", x.strip(2, 7, MOST, 20), PLACE);
        due(8, "missing", x.strip(2, 6, -1, 2), NULL);
        due(8, "n", x.strip(2, 6, 0, 0), BAD);
        due(8, "n", x.strip(2, 6, 0, 21), BAD);
        due(8, "place", x.strip(10, 6, 0, 1), BAD);
        due(8, "place", x.strip(-1, 6, 0, 1), BAD);
        due(8, "sheet", x.strip(0, 8, 0, 1), BAD);
        due(8, "sheet", x.strip(0, -1, 0, 1), BAD);
    }

    private static void nths() {
        RiverRoad x = new RiverRoad();
        String[] ofThree = {"+++---", "++-+--", "++--+-", "+-++--", "+-+-+-"};
        int[] kinds = {3, 2, 2, 2, 4};
        for (int i = 0; i < 5; i++) {
            due(9, "kind", x.nth(i, 3, i), kinds[i]);
            dueSigns(9, x, i, ofThree[i]);
        }
        int[] many = {1, 2, 5, 14, 42, 132, 429, 1430, 4862, 16796, 58786, 208012};
        for (int n = 1; n <= 12; n++) {
            due(9, "the 0-th of " + n, x.nth(0, n, 0), n == 1 ? 4 : 3);
            due(9, "the last of " + n, x.nth(0, n, many[n - 1] - 1), 4);
            due(9, "behind all of " + n, x.nth(0, n, many[n - 1]), NONE);
            due(9, "the old one is there", x.as(0, 4), n);
        }
        due(9, "below 0", x.nth(0, 5, -1), NONE);
        due(9, "the least", x.nth(0, 5, LEAST), NONE);
        due(9, "the greatest", x.nth(0, 12, MOST), NONE);
        due(9, "n", x.nth(0, 0, 0), BAD);
        due(9, "n", x.nth(0, 13, -1), BAD);
        due(9, "place", x.nth(10, 3, -1), BAD);
        due(9, "place", x.nth(-1, 3, 0), BAD);
    }

    private static void turnsAndMirrors() {
        RiverRoad x = new RiverRoad();
        row(x, 0, "++-+--");
        due(10, "++-+-- turned", x.turn(1, 0), 4);
        dueSigns(10, x, 1, "+-+-+-");
        due(10, "+-+-+- turned", x.turn(1, 1), 2);
        dueSigns(10, x, 1, "++-+--");
        row(x, 0, "+-++--");
        due(10, "+-++-- turned", x.turn(1, 0), 3);
        dueSigns(10, x, 1, "+++---");
        due(10, "+++--- turned", x.turn(1, 1), 2);
        dueSigns(10, x, 1, "++--+-");
        row(x, 0, "+-");
        due(10, "+- turned", x.turn(0, 0), 4);
        row(x, 0, "++++++++++++++++++++--------------------");
        due(10, "20 arches turned", x.turn(0, 0), 2);
        dueSigns(10, x, 0, "+++++++++++++++++++-------------------+-");
        row(x, 2, "-+");
        strip(x, 3, 0);
        x.land(4, 0, 0);
        due(10, "a row", x.turn(0, 2), KIND);
        due(10, "a strip", x.turn(0, 3), KIND);
        due(10, "a land", x.turn(0, 4), KIND);
        due(10, "empty", x.turn(0, 9), NULL);
        due(10, "no such place", x.turn(10, 9), BAD);
        due(10, "no such place", x.turn(9, 10), BAD);
        due(10, "no such place", x.turn(-1, 9), BAD);
        due(10, "no such place", x.turn(9, -1), BAD);
        due(10, "nothing was put", x.kind(9), NULL);

        row(x, 0, "++--+-");
        due(11, "++--+- mirrored", x.mirror(1, 0), 2);
        dueSigns(11, x, 1, "+-++--");
        row(x, 0, "+++-+---+-");
        due(11, "+++-+---+- mirrored", x.mirror(0, 0), 2);
        dueSigns(11, x, 0, "+-+++-+---");
        row(x, 0, "+-++--");
        row(x, 1, "+++---");
        due(11, "a land", x.land(5, 0, 1), 6);
        due(11, "a land mirrored", x.mirror(6, 5), 6);
        due(11, "over is mirrored", x.way(6, 5, 1), 4);
        due(11, "under is mirrored, too", x.way(6, 5, 2), 1);
        due(11, "a row", x.mirror(0, 2), KIND);
        due(11, "a strip", x.mirror(0, 3), KIND);
        due(11, "empty", x.mirror(0, 9), NULL);
        due(11, "no such place", x.mirror(10, 9), BAD);
        due(11, "no such place", x.mirror(9, 10), BAD);
        due(11, "no such place", x.mirror(-1, 9), BAD);
        due(11, "no such place", x.mirror(9, -1), BAD);
    }

    private static void clears() {
        RiverRoad x = new RiverRoad();
        x.nth(9, 3, 0);
        due(12, "it had a thing", x.clear(9), 1);
        due(12, "it is empty", x.kind(9), NULL);
        due(12, "it was empty", x.clear(9), 0);
        due(12, "no such place", x.clear(10), BAD);
        due(12, "no such place", x.clear(-1), BAD);
    }

    private static void kinds() {
        RiverRoad x = new RiverRoad();
        row(x, 1, "-+");
        row(x, 2, "++-+--");
        row(x, 3, "++--");
        row(x, 4, "+-+-");
        x.land(5, 3, 3);
        x.land(6, 3, 4);
        strip(x, 7, 0, 2, 1, 3);
        strip(x, 8, 1, 0);
        row(x, 9, "+-");
        String[] too = {"", "01", "012", "0123", "0124", "05", "056", "07", "078", "0124"};
        int[] n = {0, 1, 3, 2, 2, 2, 2, 4, 2, 1};
        for (int place = 1; place < 10; place++) {
            due(13, "kind(" + place + ")", x.kind(place), place == 9 ? 4 : place);
            for (int kind = 0; kind < 9; kind++) {
                boolean is = too[place].indexOf((char) ('0' + kind)) >= 0;
                due(14, "is(" + place + ", " + kind + ")", x.is(place, kind), is ? 1 : 0);
                due(15, "as(" + place + ", " + kind + ")", x.as(place, kind), is ? n[place] : KIND);
            }
        }
        for (int kind = 0; kind < 9; kind++) {
            due(14, "is of nothing", x.is(0, kind), 0);
            due(15, "as of nothing", x.as(0, kind), NULL);
        }
        due(13, "empty", x.kind(0), NULL);
        due(13, "no such place", x.kind(10), BAD);
        due(13, "no such place", x.kind(-1), BAD);
        for (int place = -1; place < 12; place += 11) {
            due(14, "no such place", x.is(place, 0), BAD);
            due(15, "no such place", x.as(place, 0), BAD);
        }
        due(14, "no such kind", x.is(0, 9), BAD);
        due(14, "no such kind", x.is(1, -1), BAD);
        due(15, "no such kind", x.as(0, 9), BAD);
        due(15, "no such kind", x.as(1, -1), BAD);
    }

    private static void asksOfRows() {
        RiverRoad x = new RiverRoad();
        row(x, 1, "+--++-++");
        due(16, "size of a row", x.ask(1, 0), 4);
        dueTrace(x, "size of a row", 10);
        due(16, "worth of a row", x.ask(1, 1), 5);
        dueTrace(x, "worth of a row", 20);
        due(16, "mark of a row", x.ask(1, 2), 7);
        dueTrace(x, "mark of a row", 30, 10);
        row(x, 2, "++-+-+--+-");
        due(16, "size of arches", x.ask(2, 0), 5);
        dueTrace(x, "size of arches", 10);
        due(16, "worth of arches", x.ask(2, 1), 4);
        dueTrace(x, "worth of arches", 21);
        due(16, "mark of arches", x.ask(2, 2), 16);
        dueTrace(x, "mark of arches", 31, 30, 10);
        row(x, 3, "+++---");
        due(16, "size of a nest", x.ask(3, 0), 3);
        dueTrace(x, "size of a nest", 10);
        due(16, "worth of a nest", x.ask(3, 1), 4);
        dueTrace(x, "worth of a nest", 22, 21, 10);
        due(16, "mark of a nest", x.ask(3, 2), 12);
        dueTrace(x, "mark of a nest", 31, 30, 10);
        row(x, 4, "+-+-+-+-");
        due(16, "size of peaks", x.ask(4, 0), 4);
        dueTrace(x, "size of peaks", 10);
        due(16, "worth of peaks", x.ask(4, 1), 4);
        dueTrace(x, "worth of peaks", 21);
        due(16, "mark of peaks", x.ask(4, 2), 18);
        dueTrace(x, "mark of peaks", 32, 31, 30, 10, 21);
    }

    private static void asksOfLandsAndStrips() {
        RiverRoad x = new RiverRoad();
        row(x, 3, "+++---");
        row(x, 4, "+-+-+-");
        due(16, "a land", x.land(5, 4, 4), 5);
        due(16, "size of a land", x.ask(5, 0), 6);
        dueTrace(x, "size of a land", 11, 10);
        due(16, "worth of a land", x.ask(5, 1), 3);
        dueTrace(x, "worth of a land", 23);
        due(16, "mark of a land", x.ask(5, 2), 9);
        dueTrace(x, "mark of a land", 30, 11, 10);
        row(x, 0, "++-+--");
        due(16, "a loop", x.land(6, 0, 4), 6);
        due(16, "size of a loop", x.ask(6, 0), 6);
        dueTrace(x, "size of a loop", 11, 10);
        due(16, "worth of a loop", x.ask(6, 1), 6);
        dueTrace(x, "worth of a loop", 24, 23, 11, 10);
        due(16, "mark of a loop", x.ask(6, 2), 9);
        dueTrace(x, "mark of a loop", 30, 11, 10);
        strip(x, 7, 2, 0, 3, 1);
        due(16, "size of a strip", x.ask(7, 0), 4);
        dueTrace(x, "size of a strip", 10);
        due(16, "worth of a strip", x.ask(7, 1), 1);
        dueTrace(x, "worth of a strip", 25);
        due(16, "mark of a strip", x.ask(7, 2), 7);
        dueTrace(x, "mark of a strip", 30, 10);
        strip(x, 8, 4, 3, 2, 1, 0);
        due(16, "size of a fold", x.ask(8, 0), 5);
        dueTrace(x, "size of a fold", 10);
        due(16, "worth of a fold", x.ask(8, 1), 104);
        dueTrace(x, "worth of a fold", 26, 25);
        due(16, "mark of a fold", x.ask(8, 2), 7);
        dueTrace(x, "mark of a fold", 33, 30, 10);
    }

    private static void traces() {
        RiverRoad x = new RiverRoad();
        x.nth(0, 1, 0);
        due(17, "empty at first", x.trace(0), NONE);
        x.ask(0, 2);
        due(16, "no such place", x.ask(10, 0), BAD);
        due(16, "no such place", x.ask(-1, 0), BAD);
        due(16, "no such ask", x.ask(0, 3), BAD);
        due(16, "no such ask", x.ask(0, -1), BAD);
        due(16, "BAD comes ahead of NULL", x.ask(1, 3), BAD);
        dueTrace(x, "BAD asks", 32, 31, 30, 10, 21);
        due(17, "below 0", x.trace(-1), NONE);
        due(17, "the 16-th", x.trace(16), NONE);
        due(17, "the least", x.trace(LEAST), NONE);
        due(17, "the greatest", x.trace(MOST), NONE);
        due(16, "nothing", x.ask(1, 0), NULL);
        dueTrace(x, "an ask of nothing");
        x.ask(0, 0);
        x.clear(0);
        dueTrace(x, "an ask of what is gone by now", 10);
    }

    private static void signsAndJoins() {
        RiverRoad x = new RiverRoad();
        row(x, 0, "-++-++");
        int[] signs = {-1, 1, 1, -1, 1, 1};
        for (int p = 0; p < 6; p++) {
            due(18, "sign", x.sign(0, p), signs[p]);
        }
        row(x, 1, "++-+--");
        int[] joined = {5, 2, 1, 4, 3, 0};
        for (int p = 0; p < 6; p++) {
            due(19, "joined", x.joined(1, p), joined[p]);
        }
        row(x, 2, "++++++++++++++++++++--------------------");
        due(18, "the last of 40", x.sign(2, 39), -1);
        due(19, "the last of 40", x.joined(2, 39), 0);
        due(19, "the innermost", x.joined(2, 19), 20);
        x.land(3, 1, 1);
        strip(x, 4, 0);
        for (int p = -1; p < 7; p += 7) {
            due(18, "no such crossing", x.sign(0, p), BAD);
            due(19, "no such crossing", x.joined(1, p), BAD);
            due(18, "KIND comes ahead of p", x.sign(3, p), KIND);
            due(18, "KIND comes ahead of p", x.sign(4, p), KIND);
            due(19, "KIND comes ahead of p", x.joined(0, p), KIND);
            due(19, "KIND comes ahead of p", x.joined(3, p), KIND);
            due(19, "KIND comes ahead of p", x.joined(4, p), KIND);
            due(18, "NULL comes ahead of p", x.sign(9, p), NULL);
            due(19, "NULL comes ahead of p", x.joined(9, p), NULL);
        }
        for (int place = -1; place < 12; place += 11) {
            due(18, "no such place", x.sign(place, 0), BAD);
            due(19, "no such place", x.joined(place, 0), BAD);
        }
        due(18, "the greatest", x.sign(0, MOST), BAD);
        due(19, "the least", x.joined(1, LEAST), BAD);
    }

    private static void ranks() {
        RiverRoad x = new RiverRoad();
        int[] many = {1, 2, 5, 14, 42, 132, 429, 1430, 4862, 16796, 58786, 208012};
        for (int n = 1; n <= 12; n++) {
            int step = many[n - 1] / 20 + 1;
            for (int i = many[n - 1] - 1; i >= 0; i -= step) {
                x.nth(n % 10, n, i);
                due(20, "rank of the " + i + "-th of " + n, x.rank(n % 10), i);
            }
        }
        row(x, 0, "+-+-+-+-+-+-+-+-+-+-+-+-+-");
        due(20, "n 13", x.rank(0), FULL);
        row(x, 0, "-+");
        due(20, "a row", x.rank(0), KIND);
        row(x, 0, "-+-+-+-+-+-+-+-+-+-+-+-+-+");
        due(20, "KIND comes ahead of FULL", x.rank(0), KIND);
        x.clear(0);
        due(20, "empty", x.rank(0), NULL);
        due(20, "no such place", x.rank(10), BAD);
        due(20, "no such place", x.rank(-1), BAD);
    }

    private static void dueWay(RiverRoad x, int place, int p, int... crossings) {
        for (int k = 0; k < crossings.length; k++) {
            due(22, "way(" + place + ", " + p + ", " + k + ")", x.way(place, p, k), crossings[k]);
        }
        due(22, "the end of the way", x.way(place, p, crossings.length), NONE);
        due(22, "far behind it", x.way(place, p, MOST), NONE);
        due(22, "once around", x.way(place, p, 2 * crossings.length), NONE);
    }

    private static void dueLoops(RiverRoad x, int place, int many, int... numbers) {
        due(21, "how many loops", x.loops(place, -1), many);
        for (int p = 0; p < numbers.length; p++) {
            due(21, "the loop of crossing " + p, x.loops(place, p), numbers[p]);
        }
        due(21, "no such crossing", x.loops(place, numbers.length), BAD);
    }

    private static void loopsAndWays() {
        RiverRoad x = new RiverRoad();
        row(x, 0, "++-+--");
        row(x, 1, "+-++--");
        row(x, 2, "+++---");
        row(x, 3, "+-+-+-");
        x.land(4, 0, 1);
        dueLoops(x, 4, 2, 0, 0, 0, 1, 1, 0);
        dueWay(x, 4, 0, 0, 5, 2, 1);
        dueWay(x, 4, 1, 1, 2, 5, 0);
        dueWay(x, 4, 3, 3, 4);
        dueWay(x, 4, 4, 4, 3);
        x.land(5, 1, 2);
        dueLoops(x, 5, 1, 0, 0, 0, 0, 0, 0);
        dueWay(x, 5, 0, 0, 1, 4, 3, 2, 5);
        dueWay(x, 5, 5, 5, 2, 3, 4, 1, 0);
        x.land(6, 2, 2);
        dueLoops(x, 6, 3, 0, 1, 2, 2, 1, 0);
        x.land(7, 3, 3);
        dueLoops(x, 7, 3, 0, 0, 1, 1, 2, 2);
        row(x, 8, "+-+-+-+-+-+-+-+-+-+-+-+-+-+-+-+-+-+-+-+-");
        x.turn(9, 8);
        due(21, "the longest loop", x.land(9, 8, 9), 6);
        due(22, "the last of the longest loop", x.way(9, 0, 39), 39);
        due(22, "the last but one of it", x.way(9, 0, 38), 38);
        due(22, "behind it", x.way(9, 0, 40), NONE);

        strip(x, 8, 0);
        x.clear(9);
        for (int p = -2; p < 8; p += 8) {
            due(21, "no such crossing", x.loops(4, p), BAD);
            due(22, "no such crossing", x.way(4, p, -1), BAD);
            due(21, "KIND comes ahead of p", x.loops(0, p), KIND);
            due(21, "KIND comes ahead of p", x.loops(8, p), KIND);
            due(22, "KIND comes ahead of p", x.way(0, p, 0), KIND);
            due(22, "KIND comes ahead of p", x.way(8, p, 0), KIND);
            due(21, "NULL comes ahead of p", x.loops(9, p), NULL);
            due(22, "NULL comes ahead of p", x.way(9, p, 0), NULL);
        }
        due(21, "the least", x.loops(4, LEAST), BAD);
        due(21, "the greatest", x.loops(4, MOST), BAD);
        due(22, "crossing -1", x.way(4, -1, 0), BAD);
        due(22, "k below 0", x.way(4, 0, -1), NONE);
        due(22, "the least k", x.way(4, 0, LEAST), NONE);
        for (int place = -1; place < 12; place += 11) {
            due(21, "no such place", x.loops(place, -1), BAD);
            due(22, "no such place", x.way(place, 0, -1), BAD);
        }
    }

    private static void countsOfLands() {
        RiverRoad x = new RiverRoad();
        due(23, "lands(3, 0)", x.lands(3, 0), 0);
        due(23, "lands(3, 1)", x.lands(3, 1), 8);
        due(23, "lands(3, 2)", x.lands(3, 2), 12);
        due(23, "lands(3, 3)", x.lands(3, 3), 5);
        due(23, "lands(3, 4)", x.lands(3, 4), 0);
        due(23, "lands(1, 7)", x.lands(1, 7), 0);
        due(23, "lands(7, 7)", x.lands(7, 7), 429);
        due(23, "lands(7, 8)", x.lands(7, 8), 0);
        due(23, "lands(7, most)", x.lands(7, MOST), 0);
        due(23, "n", x.lands(0, 1), BAD);
        due(23, "n", x.lands(8, 1), BAD);
        due(23, "n", x.lands(LEAST, 1), BAD);
        due(23, "k", x.lands(7, -1), BAD);
        due(23, "k", x.lands(7, LEAST), BAD);

        due(24, "unlike(1)", x.unlike(1), 1);
        due(24, "unlike(2)", x.unlike(2), 1);
        due(24, "unlike(3)", x.unlike(3), 2);
        due(24, "unlike(4)", x.unlike(4), 4);
        due(24, "unlike(5)", x.unlike(5), 14);
        due(24, "n", x.unlike(0), BAD);
        due(24, "n", x.unlike(6), BAD);
        due(24, "n", x.unlike(MOST), BAD);

        due(25, "sum(1, 9)", x.sum(1, 9), 9);
        due(25, "sum(2, 9)", x.sum(2, 9), 180);
        due(25, "sum(3, -9)", x.sum(3, -9), -72 + 12 * 81 - 5 * 729);
        due(25, "sum(7, 9)", x.sum(7, 9), 5540310945L);
        due(25, "sum(7, 0)", x.sum(7, 0), 0);
        due(25, "q", x.sum(7, 10), BAD);
        due(25, "q", x.sum(7, -10), BAD);
        due(25, "n", x.sum(0, 1), BAD);
        due(25, "n", x.sum(8, 1), BAD);
    }

    private static void stampsAndClashes() {
        RiverRoad x = new RiverRoad();
        int[] order = {4, 0, 3, 1, 2};
        strip(x, 0, order);
        for (int k = 0; k < 5; k++) {
            due(26, "stamp", x.stamp(0, k), order[k]);
        }
        // Joint 0 lies at places 1 to 3, joint 2 at 2 to 4; joint 1 at 3 to 4, joint 3 at 0 to 2.
        due(27, "i", x.clash(0, 0), 0);
        due(27, "j", x.clash(0, 1), 2);
        // Joints 0, 2, 4 lie at 0 to 3, 1 to 2, 4 to 5; joints 1, 3 at 1 to 3 and 2 to 4.
        due(27, "a strip", strip(x, 1, 0, 2, 3, 1, 4, 5), 7);
        due(27, "i, odd ones", x.clash(1, 0), 1);
        due(27, "j, odd ones", x.clash(1, 1), 3);
        // Joint 0 lies at 0 to 4, 2 at 1 to 2, 4 at 3 to 5.
        due(27, "a strip", strip(x, 1, 0, 2, 3, 4, 1, 5), 7);
        due(27, "i", x.clash(1, 0), 0);
        due(27, "j, not the next", x.clash(1, 1), 4);
        due(27, "even and odd ones may cross", strip(x, 1, 0, 3, 2, 1, 4), 8);
        due(27, "it folds", x.clash(1, 0), NONE);
        due(27, "it folds", x.clash(1, 1), NONE);
        x.nth(2, 2, 0);
        for (int k = -1; k < 6; k += 6) {
            due(26, "no such place of it", x.stamp(0, k), BAD);
            due(26, "KIND comes ahead of k", x.stamp(2, k), KIND);
            due(26, "NULL comes ahead of k", x.stamp(9, k), NULL);
        }
        due(26, "the least", x.stamp(0, LEAST), BAD);
        due(26, "the greatest", x.stamp(0, MOST), BAD);
        due(27, "arches", x.clash(2, 0), KIND);
        due(27, "nothing", x.clash(9, 1), NULL);
        due(27, "BAD comes ahead of KIND", x.clash(2, 2), BAD);
        due(27, "BAD comes ahead of NULL", x.clash(9, -1), BAD);
        for (int place = -1; place < 12; place += 11) {
            due(26, "no such place", x.stamp(place, 0), BAD);
            due(27, "no such place", x.clash(place, 0), BAD);
        }
    }

    private static void folds() {
        RiverRoad x = new RiverRoad();
        int[] many = {1, 2, 6, 16, 50, 144, 462, 1392};
        for (int n = 1; n <= 8; n++) {
            due(28, "folds(" + n + ")", x.folds(n), many[n - 1]);
            due(29, "the last of " + n, x.nthFold(0, n, many[n - 1] - 1), 8);
            due(29, "the last of " + n, x.stamp(0, 0), n - 1);
            due(29, "the last of " + n, x.stamp(0, n - 1), 0);
            due(29, "behind all of " + n, x.nthFold(0, n, many[n - 1]), NONE);
            due(29, "the old one is there", x.as(0, 8), n);
        }
        due(28, "n", x.folds(0), BAD);
        due(28, "n", x.folds(9), BAD);
        due(28, "n", x.folds(LEAST), BAD);
        // 0 1 2 3, 0 1 3 2, 0 2 3 1 and 0 3 2 1 begin with 0; 0 2 1 3 and 0 3 1 2 don't fold.
        due(29, "the third of 4", x.nthFold(3, 4, 2), 8);
        due(29, "the third of 4", x.stamp(3, 1), 2);
        due(29, "the third of 4", x.stamp(3, 2), 3);
        due(29, "the fourth of 4", x.nthFold(3, 4, 3), 8);
        due(29, "the fourth of 4", x.stamp(3, 2), 2);
        due(29, "the fifth of 4", x.nthFold(3, 4, 4), 8);
        due(29, "the fifth of 4", x.stamp(3, 0), 1);
        due(29, "the fifth of 4", x.stamp(3, 1), 0);
        due(29, "below 0", x.nthFold(3, 8, -1), NONE);
        due(29, "the least", x.nthFold(3, 1, LEAST), NONE);
        due(29, "the greatest", x.nthFold(3, 1, MOST), NONE);
        due(29, "n", x.nthFold(3, 0, -1), BAD);
        due(29, "n", x.nthFold(3, 9, -1), BAD);
        due(29, "place", x.nthFold(10, 8, -1), BAD);
        due(29, "place", x.nthFold(-1, 8, 0), BAD);
    }

    private static void counts() {
        RiverRoad x = new RiverRoad();
        row(x, 1, "-+");
        row(x, 2, "++-+--");
        row(x, 3, "++--");
        row(x, 4, "+-+-");
        x.land(5, 3, 3);
        x.land(6, 3, 4);
        x.land(0, 3, 4);
        strip(x, 7, 0, 2, 1, 3);
        strip(x, 8, 1, 0);
        x.sheet(0, 0, 0);
        int[] many = {2, 9, 4, 3, 2};
        for (int what = 0; what < 5; what++) {
            due(30, "count(" + what + ")", x.count(what), many[what]);
        }
        x.clear(7);
        x.drop(0);
        due(30, "one strip less", x.count(4), 1);
        due(30, "one thing less", x.count(1), 8);
        due(30, "one sheet less", x.count(0), 1);
        due(30, "what", x.count(5), BAD);
        due(30, "what", x.count(-1), BAD);
    }

    /** A call that settles leaves 0, wherever a FINDING was ahead of it. */
    private static void dueSettled(RiverRoad x, String call, int ahead, int answer) {
        due(31, "a finding ahead of " + call, ahead, NULL);
        due(31, call + " (" + answer + ")", x.status(), 0);
    }

    private static void statuses() {
        RiverRoad x = new RiverRoad();
        dueSettled(x, "sheet", x.kind(9), x.sheet(0, 2, 9));
        dueSettled(x, "set", x.kind(9), x.set(0, 0, 0));
        dueSettled(x, "set of what looks like BAD", x.kind(9), x.set(0, 0, BAD));
        dueSettled(x, "set of what looks like NULL", x.kind(9), x.set(0, 0, NULL));
        dueSettled(x, "copy", x.kind(9), x.copy(0, 0, 0, 1, 1));
        dueSettled(x, "drop", x.kind(9), x.drop(0));
        items(x, 0, 1, -1);
        dueSettled(x, "row", x.kind(9), x.row(0, 7, 1, 1));
        dueSettled(x, "land", x.kind(9), x.land(1, 0, 0));
        dueSettled(x, "strip", x.kind(9), x.strip(2, 7, 0, 2));
        dueSettled(x, "nth", x.kind(9), x.nth(0, 3, 1));
        dueSettled(x, "nth NONE", x.kind(9), x.nth(0, 3, 5));
        dueSettled(x, "turn", x.kind(9), x.turn(0, 0));
        dueSettled(x, "mirror", x.kind(9), x.mirror(0, 0));
        dueSettled(x, "mirror of a land", x.kind(9), x.mirror(1, 1));
        dueSettled(x, "kind", x.kind(9), x.kind(0));
        dueSettled(x, "as", x.kind(9), x.as(0, 2));
        dueSettled(x, "ask 0", x.kind(9), x.ask(0, 0));
        dueSettled(x, "ask 1", x.kind(9), x.ask(0, 1));
        dueSettled(x, "ask 2", x.kind(9), x.ask(0, 2));
        dueSettled(x, "sign", x.kind(9), x.sign(0, 0));
        dueSettled(x, "joined", x.kind(9), x.joined(0, 0));
        dueSettled(x, "rank", x.kind(9), x.rank(0));
        dueSettled(x, "loops", x.kind(9), x.loops(1, -1));
        dueSettled(x, "loops of p", x.kind(9), x.loops(1, 0));
        dueSettled(x, "way", x.kind(9), x.way(1, 0, 1));
        dueSettled(x, "way NONE", x.kind(9), x.way(1, 0, 9));
        dueSettled(x, "way NONE", x.kind(9), x.way(1, 0, -1));
        x.land(4, 0, 0);
        dueSettled(x, "way NONE, as one is back early", x.kind(9), x.way(4, 0, 2));
        dueSettled(x, "stamp", x.kind(9), x.stamp(2, 0));
        dueSettled(x, "clash NONE", x.kind(9), x.clash(2, 0));
        dueSettled(x, "nthFold", x.kind(9), x.nthFold(3, 3, 3));
        dueSettled(x, "nthFold NONE", x.kind(9), x.nthFold(3, 3, 6));
        findings(x);
        statusesThatStay(x);
    }

    private static void dueFinding(RiverRoad x, int number, int answer) {
        due(31, "a finding", answer, -1000010 - number);
        due(31, "its number", x.status(), number);
        due(31, "told twice", x.status(), number);
        x.kind(0);
    }

    private static void findings(RiverRoad x) {
        dueFinding(x, 4, x.sheet(0, 0, -1));
        dueFinding(x, 1, x.set(6, 0, 0));
        dueFinding(x, 2, x.set(7, 3, 0));
        dueFinding(x, 1, x.copy(6, 0, 7, 0, 0));
        x.sheet(5, 1, 1);
        dueFinding(x, 5, x.copy(5, 0, 7, 0, 0));
        dueFinding(x, 2, x.copy(7, 0, 7, 0, 4));
        dueFinding(x, 1, x.drop(6));
        dueFinding(x, 1, x.row(9, 6, 0, 1));
        dueFinding(x, 2, x.row(9, 7, 2, 1));
        dueFinding(x, 1, x.land(9, 9, 0));
        dueFinding(x, 3, x.land(9, 0, 1));
        dueFinding(x, 1, x.strip(9, 6, 0, 1));
        dueFinding(x, 2, x.strip(9, 7, 2, 2));
        dueFinding(x, 1, x.turn(0, 9));
        dueFinding(x, 3, x.turn(0, 1));
        dueFinding(x, 1, x.mirror(0, 9));
        dueFinding(x, 3, x.mirror(0, 2));
        dueFinding(x, 1, x.kind(9));
        dueFinding(x, 1, x.as(9, 0));
        dueFinding(x, 3, x.as(0, 8));
        dueFinding(x, 1, x.ask(9, 0));
        dueFinding(x, 3, x.sign(1, 0));
        dueFinding(x, 3, x.joined(1, 0));
        dueFinding(x, 3, x.rank(1));
        dueFinding(x, 3, x.loops(0, 0));
        dueFinding(x, 3, x.way(0, 0, 0));
        dueFinding(x, 3, x.stamp(0, 0));
        dueFinding(x, 3, x.clash(0, 0));
    }

    private static void statusesThatStay(RiverRoad x) {
        items(x, 0, 1, -1, 1, -1, 1, -1, 1, -1, 1, -1, 1, -1, 1, -1, 1, -1, 1, -1, 1, -1, 1, -1, 1, -1, 1, -1);
        x.row(4, 7, 1, 13);
        x.as(0, 8);
        int[] free = {
            x.clear(9), x.is(0, 0), x.is(9, 0), x.trace(0), x.lands(3, 3), x.unlike(3), x.folds(3), x.count(0),
            (int) x.sum(3, 3), x.status(),
        };
        due(31, "calls without a place leave it", x.status(), 3);
        int[] bad = {
            x.sheet(8, 0, 0), x.set(8, 0, 0), x.copy(8, 0, 0, 0, 0), x.drop(8), x.row(0, 7, 0, 1), x.row(10, 0, 0, 1),
            x.land(0, 10, 0), x.land(0, 0, 4), x.strip(0, 7, 1, 2), x.strip(10, 7, 0, 1), x.nth(0, 0, 0),
            x.turn(10, 0), x.mirror(10, 0), x.kind(10), x.as(0, 9), x.ask(0, 3), x.sign(0, 6), x.joined(0, 6),
            x.loops(1, 6), x.way(1, 6, 0), x.stamp(2, 2), x.clash(2, 2), x.nthFold(0, 0, 0), x.rank(10),
            x.is(0, 9), x.clear(10), x.lands(0, 0), x.unlike(0), x.folds(0), x.count(5),
        };
        for (int i = 0; i < bad.length; i++) {
            due(31, "BAD call " + i, bad[i], BAD);
        }
        due(31, "FULL", x.rank(4), FULL);
        due(31, "BAD and FULL calls leave it", x.status(), 3);
        due(31, "free calls", free.length, 10);
    }

    /** What is refused, or found, changes nothing: the SHEETS and THE SHELF tell the same as ahead. */
    private static void nothingChanges() {
        RiverRoad x = new RiverRoad();
        items(x, 1, -1, 0);
        x.nth(0, 3, 2);
        x.ask(0, 0);
        x.sheet(7, 2, -1);
        x.sheet(7, 3, 1);
        x.sheet(7, 2, 101);
        x.set(7, 3, 5);
        x.copy(7, 0, 7, 1, 3);
        x.row(0, 7, 1, 1);
        x.row(0, 7, 2, 1);
        x.row(0, 6, 0, 1);
        x.land(0, 0, 9);
        x.strip(0, 7, 0, 3);
        x.strip(0, 7, 3, 1);
        x.turn(0, 9);
        x.mirror(0, 9);
        x.nth(0, 3, 5);
        x.nthFold(0, 3, 6);
        dueSigns(31, x, 0, "++--+-");
        dueTrace(x, "what is refused", 10);
        due(31, "things", x.count(1), 1);
        due(31, "sheets", x.count(0), 1);
        due(31, "the items", x.row(0, 7, 0, 1), 4);
        due(31, "the items", x.strip(0, 7, 2, 1), 8);
        due(31, "how many items", x.drop(7), 3);
    }
}
