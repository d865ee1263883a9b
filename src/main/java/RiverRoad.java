import java.util.Arrays;

/**
 * A river that crosses a straight road many times and never itself: rows of signs, arches, lands of
 * arches over and under the road, and strips of stamps that fold, on one shelf of ten places.
 */
public final class RiverRoad {
    public static final int NONE = -1000000, BAD = -1000001, STATE = -1000002, FULL = -1000003;

    private static final int BEHIND_FINDINGS = -1000010;
    private static final int NULL = 1, PLACE = 2, KIND = 3, SIZE = 4, STORE = 5;

    private static final int SHEETS = 8, LANES = 3, MOST_ITEMS = 100;
    private static final int PLACES = 10, KINDS = 9, ASKS = 3;
    private static final int LARGEST = 20, LARGEST_RANKED = 12, LARGEST_LAND = 7, LARGEST_UNLIKE = 5;
    private static final int LARGEST_FOLD = 8, HIGHEST_POWERED = 9;

    /** A + at every even crossing, for as many crossings as a ROW can have. */
    private static final long BY_TURNS = 0x5555555555L;

    /*
     * Counts that no call can change are written out, as counting the 184041 LANDS of 7 anew for a call
     * would be dear; src/test/java/Recounts.java counts them all from the document's words.
     */

    /** LANDS of n (a line each, from 1 on) with 1, 2, .. 7 loops. */
    private static final int[] LANDS_BY_LOOPS = {
        1, 0, 0, 0, 0, 0, 0,
        2, 2, 0, 0, 0, 0, 0,
        8, 12, 5, 0, 0, 0, 0,
        42, 84, 56, 14, 0, 0, 0,
        262, 640, 580, 240, 42, 0, 0,
        1828, 5236, 5894, 3344, 990, 132, 0,
        13820, 45164, 60312, 42840, 17472, 4004, 429,
    };

    /** LOOPS of 1, 2, .. 5, ALIKE ones taken as one. */
    private static final int[] UNLIKE_LOOPS = {1, 1, 2, 4, 14};

    /**
     * FOLDS of 1, 2, .. 8 STAMPS that begin with one given STAMP. It is the same number for each STAMP:
     * joints that don't clash still don't when the last STAMP of an order is brought to its front.
     */
    private static final int[] FOLDS_BY_FIRST = {1, 1, 2, 4, 10, 24, 66, 174};

    private final Sheet[] sheets = new Sheet[SHEETS];
    private final Thing[] shelf = new Thing[PLACES];
    private final Trace bodies = new Trace();
    private final int[] endings = countEndings();
    private final int[] foldStamps = new int[LARGEST_FOLD];
    private final int[] foldPlaces = new int[LARGEST_FOLD];
    private int latestFinding = 0;

    public RiverRoad() {
    }

    // ---- sheets

    public int sheet(int sheet, int lane, int n) {
        if (!isSheet(sheet) || lane < 0 || lane >= LANES || n > MOST_ITEMS) {
            return BAD;
        }
        if (n < 0) {
            return found(SIZE);
        }
        sheets[sheet] = new Sheet(lane, new int[n]);
        return settled(n);
    }

    public int set(int sheet, int i, int v) {
        if (!isSheet(sheet)) {
            return BAD;
        }
        Sheet written = sheets[sheet];
        if (written == null) {
            return found(NULL);
        }
        if (!written.holds(i, 1)) {
            return found(PLACE);
        }
        written.items[i] = written.cut(v);
        return settled(written.items[i]);
    }

    public int copy(int a, int i, int b, int j, int n) {
        if (!isSheet(a) || !isSheet(b)) {
            return BAD;
        }
        Sheet from = sheets[a];
        Sheet to = sheets[b];
        if (from == null || to == null) {
            return found(NULL);
        }
        if (from.lane != to.lane) {
            return found(STORE);
        }
        if (!from.holds(i, n) || !to.holds(j, n)) {
            return found(PLACE);
        }
        System.arraycopy(from.items, i, to.items, j, n);
        return settled(n);
    }

    public int drop(int sheet) {
        if (!isSheet(sheet)) {
            return BAD;
        }
        Sheet dropped = sheets[sheet];
        if (dropped == null) {
            return found(NULL);
        }
        sheets[sheet] = null;
        return settled(dropped.items.length);
    }

    // ---- things

    public int row(int place, int sheet, int i, int n) {
        if (!isPlace(place) || !isSheet(sheet) || n < 1 || n > LARGEST) {
            return BAD;
        }
        Sheet read = sheets[sheet];
        if (read == null) {
            return found(NULL);
        }
        if (!read.holds(i, 2 * n)) {
            return found(PLACE);
        }
        long plus = 0;
        for (int p = 0; p < 2 * n; p++) {
            int item = read.items[i + p];
            if (item == 0) {
                return BAD;
            }
            if (item > 0) {
                plus |= 1L << p;
            }
        }
        return shelve(place, rowOf(n, plus));
    }

    public int land(int place, int over, int under) {
        if (!isPlace(place) || !isPlace(over) || !isPlace(under)) {
            return BAD;
        }
        if (!(shelf[over] instanceof Arches above)) {
            return notThat(over);
        }
        if (!(shelf[under] instanceof Arches below)) {
            return notThat(under);
        }
        if (above.n != below.n) {
            return BAD;
        }
        return shelve(place, landOf(above, below));
    }

    public int strip(int place, int sheet, int i, int n) {
        if (!isPlace(place) || !isSheet(sheet) || n < 1 || n > LARGEST) {
            return BAD;
        }
        Sheet read = sheets[sheet];
        if (read == null) {
            return found(NULL);
        }
        if (!read.holds(i, n)) {
            return found(PLACE);
        }
        int seen = 0;
        for (int k = 0; k < n; k++) {
            int stamp = read.items[i + k];
            if (stamp < 0 || stamp >= n || ((seen >> stamp) & 1) != 0) {
                return BAD;
            }
            seen |= 1 << stamp;
        }
        return shelve(place, stripOf(Arrays.copyOfRange(read.items, i, i + n)));
    }

    public int nth(int place, int n, int i) {
        if (!isPlace(place) || n < 1 || n > LARGEST_RANKED) {
            return BAD;
        }
        if (i < 0 || i >= endingsOf(n, n)) {
            return settled(NONE);
        }
        return shelve(place, archesOf(n, plusOfRank(n, i)));
    }

    public int turn(int to, int place) {
        if (!isPlace(to) || !isPlace(place)) {
            return BAD;
        }
        if (!(shelf[place] instanceof Arches arches)) {
            return notThat(place);
        }
        // Only the arch of crossing 0 changes its direction: its other end is now the one ahead.
        long plus = (arches.plus >> 1) | (1L << (arches.partner[0] - 1));
        return shelve(to, archesOf(arches.n, plus));
    }

    public int mirror(int to, int place) {
        if (!isPlace(to) || !isPlace(place)) {
            return BAD;
        }
        if (shelf[place] instanceof Arches arches) {
            return shelve(to, mirrored(arches));
        }
        if (shelf[place] instanceof Land land) {
            return shelve(to, landOf(mirrored(land.over), mirrored(land.under)));
        }
        return notThat(place);
    }

    public int clear(int place) {
        if (!isPlace(place)) {
            return BAD;
        }
        int had = shelf[place] == null ? 0 : 1;
        shelf[place] = null;
        return had;
    }

    // ---- asked

    public int kind(int place) {
        if (!isPlace(place)) {
            return BAD;
        }
        Thing thing = shelf[place];
        return thing == null ? found(NULL) : settled(thing.told());
    }

    public int is(int place, int kind) {
        if (!isPlace(place) || kind < 0 || kind >= KINDS) {
            return BAD;
        }
        return isOfKind(shelf[place], kind) ? 1 : 0;
    }

    public int as(int place, int kind) {
        if (!isPlace(place) || kind < 0 || kind >= KINDS) {
            return BAD;
        }
        Thing thing = shelf[place];
        if (thing == null) {
            return found(NULL);
        }
        return isOfKind(thing, kind) ? settled(thing.n) : found(KIND);
    }

    public int ask(int place, int what) {
        if (!isPlace(place) || what < 0 || what >= ASKS) {
            return BAD;
        }
        bodies.length = 0;
        Thing thing = shelf[place];
        if (thing == null) {
            return found(NULL);
        }
        switch (what) {
            case 0:
                return settled(thing.askSize(bodies));
            case 1:
                return settled(thing.askWorth(bodies));
            default:
                return settled(thing.askMark(bodies));
        }
    }

    public int trace(int i) {
        return i < 0 || i >= bodies.length ? NONE : bodies.numbers[i];
    }

    public int sign(int place, int p) {
        if (!isPlace(place)) {
            return BAD;
        }
        if (!(shelf[place] instanceof Row row)) {
            return notThat(place);
        }
        if (!isCrossing(row.n, p)) {
            return BAD;
        }
        return settled(isPlus(row.plus, p) ? 1 : -1);
    }

    public int joined(int place, int p) {
        if (!isPlace(place)) {
            return BAD;
        }
        if (!(shelf[place] instanceof Arches arches)) {
            return notThat(place);
        }
        return isCrossing(arches.n, p) ? settled(arches.partner[p]) : BAD;
    }

    public int rank(int place) {
        if (!isPlace(place)) {
            return BAD;
        }
        if (!(shelf[place] instanceof Arches arches)) {
            return notThat(place);
        }
        return arches.n > LARGEST_RANKED ? FULL : settled(rankOf(arches));
    }

    // ---- lands

    public int loops(int place, int p) {
        if (!isPlace(place)) {
            return BAD;
        }
        if (!(shelf[place] instanceof Land land)) {
            return notThat(place);
        }
        if (p == -1) {
            return settled(land.loopCount);
        }
        return isCrossing(land.n, p) ? settled(land.loopOf[p]) : BAD;
    }

    public int way(int place, int p, int k) {
        if (!isPlace(place)) {
            return BAD;
        }
        if (!(shelf[place] instanceof Land land)) {
            return notThat(place);
        }
        if (!isCrossing(land.n, p)) {
            return BAD;
        }
        if (!isCrossing(land.n, k)) {
            return settled(NONE);
        }
        int q = p;
        for (int step = 0; step < k; step++) {
            q = land.goneOn(q, step);
            if (q == p) {
                return settled(NONE);
            }
        }
        return settled(q);
    }

    public int lands(int n, int k) {
        if (n < 1 || n > LARGEST_LAND || k < 0) {
            return BAD;
        }
        return landsOf(n, k);
    }

    public int unlike(int n) {
        return n < 1 || n > LARGEST_UNLIKE ? BAD : UNLIKE_LOOPS[n - 1];
    }

    public long sum(int n, int q) {
        if (n < 1 || n > LARGEST_LAND || q < -HIGHEST_POWERED || q > HIGHEST_POWERED) {
            return BAD;
        }
        long sum = 0;
        long power = 1;
        for (int k = 1; k <= n; k++) {
            power *= q;
            sum += power * landsOf(n, k);
        }
        return sum;
    }

    // ---- strips

    public int stamp(int place, int k) {
        if (!isPlace(place)) {
            return BAD;
        }
        if (!(shelf[place] instanceof Strip strip)) {
            return notThat(place);
        }
        return k < 0 || k >= strip.n ? BAD : settled(strip.stamps[k]);
    }

    public int clash(int place, int which) {
        if (!isPlace(place) || which < 0 || which > 1) {
            return BAD;
        }
        if (!(shelf[place] instanceof Strip strip)) {
            return notThat(place);
        }
        return settled(which == 0 ? strip.clashFirst : strip.clashSecond);
    }

    public int folds(int n) {
        return n < 1 || n > LARGEST_FOLD ? BAD : n * FOLDS_BY_FIRST[n - 1];
    }

    public int nthFold(int place, int n, int i) {
        if (!isPlace(place) || n < 1 || n > LARGEST_FOLD) {
            return BAD;
        }
        if (i < 0 || !seekNthFold(n, i)) {
            return settled(NONE);
        }
        return shelve(place, stripOf(Arrays.copyOf(foldStamps, n)));
    }

    public int count(int what) {
        if (what < 0 || what > 4) {
            return BAD;
        }
        int many = 0;
        if (what == 0) {
            for (Sheet sheet : sheets) {
                many += sheet == null ? 0 : 1;
            }
            return many;
        }
        for (Thing thing : shelf) {
            many += isCounted(thing, what) ? 1 : 0;
        }
        return many;
    }

    public int status() {
        return latestFinding;
    }

    // ---- answers

    private int found(int finding) {
        latestFinding = finding;
        return BEHIND_FINDINGS - finding;
    }

    private int notThat(int place) {
        return found(shelf[place] == null ? NULL : KIND);
    }

    private int settled(int answer) {
        latestFinding = 0;
        return answer;
    }

    private int shelve(int place, Thing thing) {
        shelf[place] = thing;
        return settled(thing.told());
    }

    private static boolean isSheet(int sheet) {
        return sheet >= 0 && sheet < SHEETS;
    }

    private static boolean isPlace(int place) {
        return place >= 0 && place < PLACES;
    }

    private static boolean isCrossing(int n, int p) {
        return p >= 0 && p < 2 * n;
    }

    private static boolean isPlus(long plus, int p) {
        return ((plus >> p) & 1L) != 0;
    }

    private static boolean isOfKind(Thing thing, int kind) {
        switch (kind) {
            case 0:
                return thing != null;
            case 1:
                return thing instanceof Row;
            case 2:
                return thing instanceof Arches;
            case 3:
                return thing instanceof Nest;
            case 4:
                return thing instanceof Peaks;
            case 5:
                return thing instanceof Land;
            case 6:
                return thing instanceof Loop;
            case 7:
                return thing instanceof Strip;
            default:
                return thing instanceof Fold;
        }
    }

    private static boolean isCounted(Thing thing, int what) {
        switch (what) {
            case 1:
                return thing != null;
            case 2:
                return thing instanceof Row;
            case 3:
                return thing instanceof Land;
            default:
                return thing instanceof Strip;
        }
    }

    // ---- rows and arches: bit p of "plus" tells that the sign at crossing p is +

    private static Row rowOf(int n, long plus) {
        return areArches(n, plus) ? archesOf(n, plus) : new Row(n, plus);
    }

    private static boolean areArches(int n, long plus) {
        int open = 0;
        for (int p = 0; p < 2 * n; p++) {
            open += isPlus(plus, p) ? 1 : -1;
            if (open < 0) {
                return false;
            }
        }
        return open == 0;
    }

    /** For signs that are known to be ARCHES. PEAKS come first, so that one arch is told as these. */
    private static Arches archesOf(int n, long plus) {
        int[] partner = partnersOf(n, plus);
        if (plus == (BY_TURNS & ((1L << (2 * n)) - 1))) {
            return new Peaks(n, plus, partner);
        }
        if (plus == (1L << n) - 1) {
            return new Nest(n, plus, partner);
        }
        return new Arches(n, plus, partner);
    }

    /** Till a + is joined, its entry tells the open + ahead of it: so no second row is needed. */
    private static int[] partnersOf(int n, long plus) {
        int[] partner = new int[2 * n];
        int latestOpen = -1;
        for (int p = 0; p < 2 * n; p++) {
            if (isPlus(plus, p)) {
                partner[p] = latestOpen;
                latestOpen = p;
            } else if (latestOpen >= 0) {
                int opener = latestOpen;
                latestOpen = partner[opener];
                partner[opener] = p;
                partner[p] = opener;
            }
        }
        return partner;
    }

    private static Arches mirrored(Arches arches) {
        int last = 2 * arches.n - 1;
        long plus = 0;
        for (int p = 0; p <= last; p++) {
            if (!isPlus(arches.plus, last - p)) {
                plus |= 1L << p;
            }
        }
        return archesOf(arches.n, plus);
    }

    /** In how many ways ARCHES can end, by the + and the - that are still to come. */
    private static int[] countEndings() {
        int[] ways = new int[(LARGEST_RANKED + 1) * (LARGEST_RANKED + 1)];
        for (int minus = 0; minus <= LARGEST_RANKED; minus++) {
            ways[endingsAt(0, minus)] = 1;
            for (int plus = 1; plus <= minus; plus++) {
                int minusNext = plus < minus ? ways[endingsAt(plus, minus - 1)] : 0;
                ways[endingsAt(plus, minus)] = ways[endingsAt(plus - 1, minus)] + minusNext;
            }
        }
        return ways;
    }

    private static int endingsAt(int plus, int minus) {
        return plus * (LARGEST_RANKED + 1) + minus;
    }

    private int endingsOf(int plus, int minus) {
        return plus < 0 ? 0 : endings[endingsAt(plus, minus)];
    }

    private long plusOfRank(int n, int rank) {
        long signs = 0;
        int ahead = rank;
        int plus = n;
        int minus = n;
        for (int p = 0; p < 2 * n; p++) {
            int withPlus = endingsOf(plus - 1, minus);
            if (ahead < withPlus) {
                signs |= 1L << p;
                plus--;
            } else {
                ahead -= withPlus;
                minus--;
            }
        }
        return signs;
    }

    private int rankOf(Arches arches) {
        int rank = 0;
        int plus = arches.n;
        int minus = arches.n;
        for (int p = 0; p < 2 * arches.n; p++) {
            if (isPlus(arches.plus, p)) {
                plus--;
            } else {
                rank += endingsOf(plus - 1, minus);
                minus--;
            }
        }
        return rank;
    }

    // ---- lands

    private static Land landOf(Arches over, Arches under) {
        int[] loopOf = new int[2 * over.n];
        int loopCount = numberLoops(over.partner, under.partner, loopOf);
        return loopCount == 1 ? new Loop(over, under, loopOf) : new Land(over, under, loopOf, loopCount);
    }

    /** Starts from the least crossing that has no number yet, so that numbers go by these. */
    private static int numberLoops(int[] over, int[] under, int[] loopOf) {
        Arrays.fill(loopOf, NONE);
        int many = 0;
        for (int p = 0; p < loopOf.length; p++) {
            int q = p;
            for (int step = 0; step < loopOf.length && loopOf[q] == NONE; step++) {
                loopOf[q] = many;
                q = (step & 1) == 0 ? over[q] : under[q];
            }
            if (loopOf[p] == many) {
                many++;
            }
        }
        return many;
    }

    private static int landsOf(int n, int k) {
        return k < 1 || k > n ? 0 : LANDS_BY_LOOPS[(n - 1) * LARGEST_LAND + k - 1];
    }

    // ---- strips

    private static Strip stripOf(int[] stamps) {
        int[] placeOf = new int[stamps.length];
        for (int k = 0; k < stamps.length; k++) {
            placeOf[stamps[k]] = k;
        }
        for (int i = 0; i < stamps.length - 1; i++) {
            int j = firstClashWith(i, placeOf);
            if (j != NONE) {
                return new Strip(stamps, placeOf, i, j);
            }
        }
        return new Fold(stamps, placeOf);
    }

    private static int firstClashWith(int i, int[] placeOf) {
        int from = Math.min(placeOf[i], placeOf[i + 1]);
        int to = Math.max(placeOf[i], placeOf[i + 1]);
        for (int j = i + 2; j < placeOf.length - 1; j += 2) {
            if (isBetween(placeOf[j], from, to) != isBetween(placeOf[j + 1], from, to)) {
                return j;
            }
        }
        return NONE;
    }

    private static boolean isBetween(int k, int from, int to) {
        return k > from && k < to;
    }

    /** Leaves the i-th FOLD in foldStamps, if there is one. */
    private boolean seekNthFold(int n, int i) {
        int each = FOLDS_BY_FIRST[n - 1];
        int left = i;
        int first = 0;
        while (first < n && left >= each) {
            left -= each;
            first++;
        }
        if (first == n) {
            return false;
        }
        Arrays.fill(foldPlaces, NONE);
        foldStamps[0] = first;
        foldPlaces[first] = 0;
        return seekFold(n, 1, left, foldStamps, foldPlaces) < 0;
    }

    /** Tries all STAMPS at place k and behind; tells how many FOLDS are left to pass, below 0: none. */
    private static int seekFold(int n, int k, int left, int[] stamps, int[] placeOf) {
        if (k >= n) {
            return left - 1;
        }
        int stillLeft = left;
        for (int stamp = 0; stamp < n; stamp++) {
            if (placeOf[stamp] == NONE && fits(n, k, stamp, stamps, placeOf)) {
                stamps[k] = stamp;
                placeOf[stamp] = k;
                stillLeft = seekFold(n, k + 1, stillLeft, stamps, placeOf);
                if (stillLeft < 0) {
                    return stillLeft;
                }
                placeOf[stamp] = NONE;
            }
        }
        return stillLeft;
    }

    private static boolean fits(int n, int k, int stamp, int[] stamps, int[] placeOf) {
        for (int side = 0; side < 2; side++) {
            int mate = mateOf(n, stamp, side);
            if (mate != NONE && placeOf[mate] != NONE && !closes(n, placeOf[mate], k, side, stamps, placeOf)) {
                return false;
            }
        }
        return true;
    }

    /** Whether a joint from a place to place k clashes with none of its side (0: even, 1: odd) in between. */
    private static boolean closes(int n, int from, int k, int side, int[] stamps, int[] placeOf) {
        for (int between = from + 1; between < k; between++) {
            int mate = mateOf(n, stamps[between], side);
            if (mate != NONE && !isBetween(placeOf[mate], from, k)) {
                return false;
            }
        }
        return true;
    }

    /** The STAMP at the other end of the even (side 0) or odd (side 1) joint of a STAMP. */
    private static int mateOf(int n, int stamp, int side) {
        int mate = (stamp & 1) == side ? stamp + 1 : stamp - 1;
        return mate < 0 || mate >= n ? NONE : mate;
    }

    // ---- what is kept

    private static final class Sheet {
        final int lane;
        final int[] items;

        Sheet(int lane, int[] items) {
            this.lane = lane;
            this.items = items;
        }

        boolean holds(int i, int many) {
            return i >= 0 && many >= 0 && i <= items.length - many;
        }

        int cut(int v) {
            switch (lane) {
                case 0:
                    return (byte) v;
                case 1:
                    return (short) v;
                default:
                    return v;
            }
        }
    }

    private static final class Trace {
        final int[] numbers = new int[16];
        int length = 0;

        void leave(int number) {
            if (length < numbers.length) {
                numbers[length] = number;
                length++;
            }
        }
    }

    private abstract static class Thing {
        final int n;

        Thing(int n) {
            this.n = n;
        }

        abstract int told();

        int askSize(Trace trace) {
            trace.leave(10);
            return n;
        }

        abstract int askWorth(Trace trace);

        int askMark(Trace trace) {
            trace.leave(30);
            return askSize(trace) + 3;
        }
    }

    private static class Row extends Thing {
        final long plus;

        Row(int n, long plus) {
            super(n);
            this.plus = plus;
        }

        int told() {
            return 1;
        }

        int askWorth(Trace trace) {
            trace.leave(20);
            return Long.bitCount(plus);
        }
    }

    private static class Arches extends Row {
        final int[] partner;

        Arches(int n, long plus, int[] partner) {
            super(n, plus);
            this.partner = partner;
        }

        int told() {
            return 2;
        }

        int askWorth(Trace trace) {
            trace.leave(21);
            int many = 0;
            for (int p = 0; p < partner.length; p++) {
                many += partner[p] == p + 1 ? 1 : 0;
            }
            return many;
        }

        int askMark(Trace trace) {
            trace.leave(31);
            return 2 * super.askMark(trace);
        }
    }

    private static final class Nest extends Arches {
        Nest(int n, long plus, int[] partner) {
            super(n, plus, partner);
        }

        int told() {
            return 3;
        }

        int askWorth(Trace trace) {
            trace.leave(22);
            return super.askWorth(trace) + askSize(trace);
        }
    }

    private static final class Peaks extends Arches {
        Peaks(int n, long plus, int[] partner) {
            super(n, plus, partner);
        }

        int told() {
            return 4;
        }

        int askMark(Trace trace) {
            trace.leave(32);
            return super.askMark(trace) + askWorth(trace);
        }
    }

    private static class Land extends Thing {
        final Arches over;
        final Arches under;
        final int[] loopOf;
        final int loopCount;

        Land(Arches over, Arches under, int[] loopOf, int loopCount) {
            super(over.n);
            this.over = over;
            this.under = under;
            this.loopOf = loopOf;
            this.loopCount = loopCount;
        }

        int goneOn(int q, int step) {
            return (step & 1) == 0 ? over.partner[q] : under.partner[q];
        }

        int told() {
            return 5;
        }

        int askSize(Trace trace) {
            trace.leave(11);
            return 2 * super.askSize(trace);
        }

        int askWorth(Trace trace) {
            trace.leave(23);
            return loopCount;
        }
    }

    private static final class Loop extends Land {
        Loop(Arches over, Arches under, int[] loopOf) {
            super(over, under, loopOf, 1);
        }

        int told() {
            return 6;
        }

        int askWorth(Trace trace) {
            trace.leave(24);
            return super.askWorth(trace) * askSize(trace);
        }
    }

    private static class Strip extends Thing {
        final int[] stamps;
        final int[] placeOf;
        final int clashFirst;
        final int clashSecond;

        Strip(int[] stamps, int[] placeOf, int clashFirst, int clashSecond) {
            super(stamps.length);
            this.stamps = stamps;
            this.placeOf = placeOf;
            this.clashFirst = clashFirst;
            this.clashSecond = clashSecond;
        }

        int told() {
            return 7;
        }

        int askWorth(Trace trace) {
            trace.leave(25);
            return placeOf[0];
        }
    }

    private static final class Fold extends Strip {
        Fold(int[] stamps, int[] placeOf) {
            super(stamps, placeOf, NONE, NONE);
        }

        int told() {
            return 8;
        }

        int askWorth(Trace trace) {
            trace.leave(26);
            return super.askWorth(trace) + 100;
        }

        int askMark(Trace trace) {
            trace.leave(33);
            return super.askMark(trace) - 1;
        }
    }
}
