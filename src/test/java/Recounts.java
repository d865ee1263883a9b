import java.util.ArrayList;
import java.util.HashMap;
import java.util.HashSet;
import java.util.List;
import java.util.Map;
import java.util.Set;

/**
 * Counts from the document's words, without the class, what the class has written out or counts by a
 * rule: LANDS by loops, their sums, unlike LOOPS, FOLDS; and the ORDER of ARCHES and of FOLDS.
 */
public final class Recounts {
    private static int wrong = 0;

    private static void due(String call, long got, long want) {
        if (got != want) {
            wrong++;
            System.out.println(call + " answered " + got + ", due is " + want);
        }
    }

    public static void main(String[] args) {
        RiverRoad x = new RiverRoad();
        for (int n = 1; n <= 7; n++) {
            countLands(x, n);
        }
        for (int n = 1; n <= 5; n++) {
            due("unlike(" + n + ")", x.unlike(n), unlikeLoops(n));
        }
        for (int n = 1; n <= 8; n++) {
            countFolds(n);
        }
        for (int n = 1; n <= 12; n++) {
            orderArches(n);
        }
        System.out.println(wrong == 0 ? "all counts are as due" : wrong + " counts are not as due");
        if (wrong != 0) {
            System.exit(1);
        }
    }

    private static List<String> arches(int n) {
        List<String> all = new ArrayList<>();
        addArches("", n, n, all);
        return all;
    }

    /** + is tried ahead of -, so that they come in ORDER. */
    private static void addArches(String begun, int plus, int minus, List<String> all) {
        if (plus == 0 && minus == 0) {
            all.add(begun);
            return;
        }
        if (plus > 0) {
            addArches(begun + "+", plus - 1, minus, all);
        }
        if (minus > plus) {
            addArches(begun + "-", plus, minus - 1, all);
        }
    }

    /** For each + looks for the place where all that was opened behind it is closed again. */
    private static int[] partners(String signs) {
        int[] partner = new int[signs.length()];
        for (int p = 0; p < partner.length; p++) {
            if (signs.charAt(p) == '+') {
                int height = 1;
                int q = p;
                while (height > 0) {
                    q++;
                    height += signs.charAt(q) == '+' ? 1 : -1;
                }
                partner[p] = q;
                partner[q] = p;
            }
        }
        return partner;
    }

    private static String signsOf(int[] partner) {
        StringBuilder text = new StringBuilder();
        for (int p = 0; p < partner.length; p++) {
            text.append(partner[p] > p ? '+' : '-');
        }
        return text.toString();
    }

    private static int loops(int[] over, int[] under) {
        int many = 0;
        boolean[] seen = new boolean[over.length];
        for (int p = 0; p < over.length; p++) {
            if (!seen[p]) {
                many++;
                int q = p;
                do {
                    seen[q] = true;
                    seen[over[q]] = true;
                    q = under[over[q]];
                } while (q != p);
            }
        }
        return many;
    }

    private static void countLands(RiverRoad x, int n) {
        List<int[]> all = new ArrayList<>();
        for (String signs : arches(n)) {
            all.add(partners(signs));
        }
        long[] byLoops = new long[12];
        for (int[] over : all) {
            for (int[] under : all) {
                byLoops[loops(over, under)]++;
            }
        }
        for (int k = 0; k < 12; k++) {
            due("lands(" + n + ", " + k + ")", x.lands(n, k), byLoops[k]);
        }
        for (int q = -9; q <= 9; q++) {
            long sum = 0;
            for (int k = 0; k < 12; k++) {
                long power = 1;
                for (int i = 0; i < k; i++) {
                    power *= q;
                }
                sum += byLoops[k] * power;
            }
            due("sum(" + n + ", " + q + ")", x.sum(n, q), sum);
        }
    }

    private static int[] turned(int[] partner) {
        int[] to = new int[partner.length];
        for (int p = 0; p < partner.length; p++) {
            to[(p + partner.length - 1) % partner.length] = (partner[p] + partner.length - 1) % partner.length;
        }
        return to;
    }

    private static int[] mirrored(int[] partner) {
        int[] to = new int[partner.length];
        for (int p = 0; p < partner.length; p++) {
            to[partner.length - 1 - p] = partner.length - 1 - partner[p];
        }
        return to;
    }

    private static long unlikeLoops(int n) {
        Set<String> seen = new HashSet<>();
        int unlike = 0;
        for (String over : arches(n)) {
            for (String under : arches(n)) {
                if (loops(partners(over), partners(under)) == 1 && !seen.contains(over + under)) {
                    unlike++;
                    spread(over, under, seen);
                }
            }
        }
        return unlike;
    }

    private static void spread(String over, String under, Set<String> seen) {
        if (!seen.add(over + under)) {
            return;
        }
        int[] above = partners(over);
        int[] below = partners(under);
        spread(under, over, seen);
        spread(signsOf(turned(above)), signsOf(turned(below)), seen);
        spread(signsOf(mirrored(above)), signsOf(mirrored(below)), seen);
    }

    private static void countFolds(int n) {
        RiverRoad x = new RiverRoad();
        List<int[]> all = new ArrayList<>();
        addFolds(new int[n], 0, all);
        due("folds(" + n + ")", x.folds(n), all.size());
        for (int i = 0; i < all.size(); i++) {
            x = new RiverRoad();
            due("nthFold(.., " + n + ", " + i + ")", x.nthFold(i % 10, n, i), 8);
            for (int k = 0; k < n; k++) {
                due("stamp " + k + " of the " + i + "-th of " + n, x.stamp(i % 10, k), all.get(i)[k]);
            }
        }
        due("nthFold behind all", x.nthFold(0, n, all.size()), RiverRoad.NONE);
    }

    private static void addFolds(int[] order, int k, List<int[]> all) {
        if (k == order.length) {
            if (isFold(order)) {
                all.add(order.clone());
            }
            return;
        }
        for (int stamp = 0; stamp < order.length; stamp++) {
            boolean is = false;
            for (int i = 0; i < k; i++) {
                is |= order[i] == stamp;
            }
            if (!is) {
                order[k] = stamp;
                addFolds(order, k + 1, all);
            }
        }
    }

    private static boolean isFold(int[] order) {
        int n = order.length;
        int[] at = new int[n];
        for (int k = 0; k < n; k++) {
            at[order[k]] = k;
        }
        for (int i = 0; i + 1 < n; i++) {
            for (int j = i + 1; j + 1 < n; j++) {
                if (i % 2 == j % 2) {
                    int between = 0;
                    for (int stamp = j; stamp <= j + 1; stamp++) {
                        between += (at[stamp] > at[i]) != (at[stamp] > at[i + 1]) ? 1 : 0;
                    }
                    if (between == 1) {
                        return false;
                    }
                }
            }
        }
        return true;
    }

    private static void orderArches(int n) {
        List<String> all = arches(n);
        Map<String, Integer> places = new HashMap<>();
        for (int i = 0; i < all.size(); i++) {
            places.put(all.get(i), i);
        }
        int step = Math.max(1, all.size() / 5000);
        for (int i = 0; i < all.size(); i += step) {
            String signs = all.get(i);
            RiverRoad x = new RiverRoad();
            x.nth(0, n, i);
            due("rank", x.rank(0), i);
            for (int p = 0; p < 2 * n; p++) {
                due("sign " + p + " of " + signs, x.sign(0, p), signs.charAt(p) == '+' ? 1 : -1);
            }
            x.turn(1, 0);
            due("turned " + signs, x.rank(1), places.get(signsOf(turned(partners(signs)))));
            x.mirror(2, 0);
            due("mirrored " + signs, x.rank(2), places.get(signsOf(mirrored(partners(signs)))));
        }
        due("nth behind all", new RiverRoad().nth(0, n, all.size()), RiverRoad.NONE);
    }
}
