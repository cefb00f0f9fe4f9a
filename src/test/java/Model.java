import java.math.BigInteger;
import java.util.ArrayList;
import java.util.Collections;
import java.util.HashMap;
import java.util.HashSet;
import java.util.List;
import java.util.Map;
import java.util.Set;
import java.util.TreeMap;

/** The document once more, in its slowest and plainest form, to hold the class against. */
final class Model {
    private static final int NONE = -1, BAD = -2, NO = -3, FULL = -4, FAR = -2000000000;

    private static final class Rod {
        boolean slide;
        int q;
        int fold;
        boolean turned;
        final List<int[]> spans = new ArrayList<>();
        final List<Integer> marks = new ArrayList<>();
    }

    private static final Map<Integer, int[]> PLAIN = new HashMap<>();

    private int steps = 10000;
    private int off = 0;
    private final List<Rod> rods = new ArrayList<>();
    private final List<Integer> factors = new ArrayList<>();
    private final List<List<Integer>> strips = List.of(new ArrayList<>(), new ArrayList<>());

    private static boolean out(long v, long low, long high) {
        return v < low || v > high;
    }

    private boolean noRod(int scale) {
        return out(scale, 0, rods.size() - 1);
    }

    private int at(Rod rod, int v) {
        int p = ExactPlace.of(v, steps, rod.q, rod.fold);
        return rod.turned ? steps - p : p;
    }

    int rule(int v) {
        if (out(v, 100, 50000)) {
            return BAD;
        }
        int was = steps;
        steps = v;
        return was;
    }

    int scale(boolean slide, int q, int fold, boolean turned) {
        if (out(q, 1, 3) || out(fold, 10, 990)) {
            return BAD;
        }
        if (rods.size() == 8) {
            return FULL;
        }
        Rod rod = new Rod();
        rod.slide = slide;
        rod.q = q;
        rod.fold = fold;
        rod.turned = turned;
        rods.add(rod);
        return rods.size() - 1;
    }

    int place(int scale, int v) {
        return noRod(scale) || out(v, 100, 100000) ? FAR : at(rods.get(scale), v);
    }

    int span(int scale, int from, int to, int d) {
        if (noRod(scale) || out(from, 100, 100000) || out(to, from, 100000) || out(d, 1, 10000)) {
            return BAD;
        }
        Rod rod = rods.get(scale);
        if (!rod.spans.isEmpty() && from <= rod.spans.get(rod.spans.size() - 1)[1]) {
            return NO;
        }
        List<Integer> more = new ArrayList<>();
        for (int v = from; v <= to; v += d) {
            more.add(v);
        }
        if (rod.spans.size() == 4 || rod.marks.size() + more.size() > 400) {
            return FULL;
        }
        rod.spans.add(new int[] {from, to, d});
        rod.marks.addAll(more);
        return more.size();
    }

    int mark(int scale, int i) {
        if (noRod(scale) || i < 0) {
            return BAD;
        }
        return i < rods.get(scale).marks.size() ? rods.get(scale).marks.get(i) : NONE;
    }

    int marks(int scale) {
        return noRod(scale) ? BAD : rods.get(scale).marks.size();
    }

    int closest(int scale, int what) {
        if (noRod(scale) || out(what, 0, 1)) {
            return BAD;
        }
        Rod rod = rods.get(scale);
        TreeMap<Integer, Integer> byGap = new TreeMap<>();
        for (int i = 1; i < rod.marks.size(); i++) {
            int gap = Math.abs(at(rod, rod.marks.get(i)) - at(rod, rod.marks.get(i - 1)));
            byGap.putIfAbsent(gap, rod.marks.get(i - 1));
        }
        if (byGap.isEmpty()) {
            return NONE;
        }
        return what == 0 ? byGap.firstEntry().getValue() : byGap.firstKey();
    }

    int off(int v) {
        if (out(v, -200000, 200000)) {
            return FAR;
        }
        int was = off;
        off = v;
        return was;
    }

    int set(int slide, int u, int body, int w) {
        if (noRod(slide) || out(u, 100, 100000) || noRod(body) || out(w, 100, 100000)) {
            return FAR;
        }
        if (!rods.get(slide).slide || rods.get(body).slide) {
            return FAR;
        }
        off = at(rods.get(body), w) - at(rods.get(slide), u);
        return off;
    }

    int against(int scale, int v, int other) {
        if (noRod(scale) || out(v, 100, 100000) || noRod(other)) {
            return FAR;
        }
        int onBody = at(rods.get(scale), v) + (rods.get(scale).slide ? off : 0);
        return onBody - (rods.get(other).slide ? off : 0);
    }

    int nearest(int scale, int place) {
        if (noRod(scale) || out(place, -1000000, 1000000)) {
            return BAD;
        }
        TreeMap<Integer, Integer> byFar = new TreeMap<>();
        for (int v : rods.get(scale).marks) {
            byFar.putIfAbsent(Math.abs(at(rods.get(scale), v) - place), v);
        }
        return byFar.isEmpty() ? NONE : byFar.firstEntry().getValue();
    }

    int between(int scale, int place) {
        if (noRod(scale) || out(place, -1000000, 1000000)) {
            return BAD;
        }
        Rod rod = rods.get(scale);
        for (int i = 1; i < rod.marks.size(); i++) {
            int v1 = rod.marks.get(i - 1);
            int v2 = rod.marks.get(i);
            int p1 = at(rod, v1);
            int p2 = at(rod, v2);
            boolean holds = p1 < p2 ? p1 <= place && place <= p2 : p2 <= place && place <= p1;
            if (p1 != p2 && holds) {
                BigInteger up = BigInteger.valueOf(v2 - v1).multiply(BigInteger.valueOf(place - p1));
                return v1 + up.divide(BigInteger.valueOf(p2 - p1)).intValue();
            }
        }
        return NONE;
    }

    int factor(int v) {
        if (out(v, 100, 999)) {
            return BAD;
        }
        if (factors.size() == 12) {
            return FULL;
        }
        factors.add(v);
        return factors.size();
    }

    int clear() {
        int was = factors.size();
        factors.clear();
        return was;
    }

    private int[] plain() {
        if (!PLAIN.containsKey(steps)) {
            int[] row = new int[1000];
            for (int v = 100; v < 1000; v++) {
                row[v] = ExactPlace.of(v, steps, 1, 10);
            }
            PLAIN.put(steps, row);
        }
        return PLAIN.get(steps);
    }

    private int[] run(List<Integer> all) {
        int place = 0;
        int pulled = 0;
        BigInteger product = BigInteger.valueOf(100);
        for (int v : all) {
            place += plain()[v];
            if (place >= steps) {
                place -= steps;
                pulled++;
            }
            product = product.multiply(BigInteger.valueOf(v));
        }
        int reading = 100;
        for (int v = 101; v < 1000; v++) {
            if (Math.abs(plain()[v] - place) < Math.abs(plain()[reading] - place)) {
                reading = v;
            }
        }
        int truth = Integer.parseInt(product.toString().substring(0, 3));
        return new int[] {place, reading, truth, reading - truth, pulled};
    }

    int chain(int what) {
        return out(what, 0, 4) ? FAR : run(factors)[what];
    }

    int pairs(int from, int to, int d, int what) {
        if (out(from, 100, 999) || out(to, from, 999) || out(d, 1, 10000) || out(what, 0, 5)) {
            return BAD;
        }
        List<Integer> numbers = new ArrayList<>();
        for (int v = from; v <= to; v += d) {
            numbers.add(v);
        }
        if (numbers.size() > 100) {
            return BAD;
        }
        int[] all = {-1, 0, 0, 0, 0, 0};
        for (int a : numbers) {
            for (int b : numbers) {
                if (a <= b) {
                    int[] got = run(List.of(a, b));
                    int miss = Math.abs(got[3]);
                    if (miss > all[0]) {
                        all[0] = miss;
                        all[1] = a;
                        all[2] = b;
                    }
                    all[3] += miss;
                    all[4]++;
                    all[5] += got[4];
                }
            }
        }
        return all[what];
    }

    /** The settings of one number that there are, in the order of their codes: 100 and s to part, s to multiply. */
    private List<Integer> sorts() {
        List<Integer> all = new ArrayList<>();
        for (int sort = 0; sort < 2; sort++) {
            for (int s = 1; s <= 3; s++) {
                boolean can = false;
                for (Rod rod : rods) {
                    can |= rod.slide && rod.q == s && (sort == 1 || !rod.turned);
                }
                if (can) {
                    all.add(100 * sort + s);
                }
            }
        }
        return all;
    }

    /** The first row, rising, of so many settings from the at-th sort on that comes to the power, or null. */
    private static List<Integer> rising(List<Integer> sorts, int at, int many, int power) {
        if (at == sorts.size()) {
            return many == 0 && power == 0 ? List.of() : null;
        }
        int sort = sorts.get(at);
        int by = sort < 100 ? sort : 100 - sort;
        for (int times = many; times >= 0; times--) {
            List<Integer> rest = rising(sorts, at + 1, many - times, power - times * by);
            if (rest != null) {
                List<Integer> all = new ArrayList<>(Collections.nCopies(times, sort));
                all.addAll(rest);
                return all;
            }
        }
        return null;
    }

    /** Settings may change places, so the first row is the settings of all three numbers, rising by their codes. */
    private List<Integer> firstRow(int... goal) {
        List<Integer> sorts = sorts();
        List<Integer> all = new ArrayList<>();
        for (int k = 0; k < 3; k++) {
            List<Integer> row = null;
            for (int many = 0; many <= 12 && row == null; many++) {
                row = rising(sorts, 0, many, goal[k]);
            }
            if (row == null) {
                return null;
            }
            for (int sort : row) {
                all.add(sort + 10 * k);
            }
        }
        Collections.sort(all);
        return all;
    }

    int fewest(int e0, int e1, int e2) {
        if (out(e0, -8, 8) || out(e1, -8, 8) || out(e2, -8, 8)) {
            return BAD;
        }
        List<Integer> row = firstRow(e0, e1, e2);
        return row == null ? NONE : row.size();
    }

    int setting(int e0, int e1, int e2, int i) {
        if (out(e0, -8, 8) || out(e1, -8, 8) || out(e2, -8, 8) || i < 0) {
            return BAD;
        }
        List<Integer> row = firstRow(e0, e1, e2);
        return row == null || i >= row.size() ? NONE : row.get(i);
    }

    int cut(int strip, int place) {
        if (out(strip, 0, 1) || out(place, 0, 1000000)) {
            return BAD;
        }
        List<Integer> row = strips.get(strip);
        if (!row.isEmpty() && place <= row.get(row.size() - 1)) {
            return BAD;
        }
        if (row.size() == 60) {
            return FULL;
        }
        row.add(place);
        return row.size();
    }

    int wipe(int strip) {
        if (out(strip, 0, 1)) {
            return BAD;
        }
        int was = strips.get(strip).size();
        strips.get(strip).clear();
        return was;
    }

    int chosen(int strip, int near, int what) {
        if (out(strip, 0, 1) || out(near, 1, 100000) || what < -1) {
            return BAD;
        }
        List<Integer> all = new ArrayList<>();
        for (int place : strips.get(strip)) {
            if (all.isEmpty() || all.get(all.size() - 1) + near <= place) {
                all.add(place);
            }
        }
        return what == NONE ? all.size() : what < all.size() ? all.get(what) : NONE;
    }

    int match(int what) {
        if (out(what, 0, 1) || strips.get(0).isEmpty() || strips.get(1).isEmpty()) {
            return FAR;
        }
        Map<Integer, Integer> many = new HashMap<>();
        for (int a : strips.get(0)) {
            for (int b : strips.get(1)) {
                many.merge(a - b, 1, Integer::sum);
            }
        }
        int best = 0;
        int bestMany = 0;
        for (Map.Entry<Integer, Integer> each : many.entrySet()) {
            int t = each.getKey();
            boolean better = each.getValue() > bestMany;
            if (each.getValue() == bestMany) {
                better = Math.abs(t) < Math.abs(best) || Math.abs(t) == Math.abs(best) && t > 0;
            }
            if (better) {
                best = t;
                bestMany = each.getValue();
            }
        }
        return what == 0 ? best : bestMany;
    }

    private static BigInteger number(int law, int v) {
        long[] all = {(long) v * v, (long) v * v * v, 1000000 / v, v * (v + 1) / 2};
        return BigInteger.valueOf(all[law]);
    }

    int law(int law, int v) {
        if (out(law, 0, 3) || out(v, 1, 60)) {
            return BAD;
        }
        BigInteger first = number(law, law == 2 ? 60 : 1);
        BigInteger wide = number(law, law == 2 ? 1 : 60).subtract(first);
        BigInteger up = number(law, v).subtract(first).multiply(BigInteger.valueOf(steps));
        BigInteger[] got = up.divideAndRemainder(wide);
        return got[0].intValue() + (got[1].shiftLeft(1).compareTo(wide) >= 0 ? 1 : 0);
    }

    int doubled(int law) {
        if (out(law, 0, 3)) {
            return BAD;
        }
        Set<Integer> all = new HashSet<>();
        int[] row = new int[61];
        for (int v = 1; v <= 60; v++) {
            row[v] = law(law, v);
            all.add(row[v]);
        }
        int many = 0;
        for (int v = 1; v <= 60; v++) {
            for (int w = v + 1; w <= 60; w++) {
                many += all.contains(row[v] + row[w]) ? 1 : 0;
            }
        }
        return many;
    }

    int count(int what) {
        int onSlide = 0;
        for (Rod rod : rods) {
            onSlide += rod.slide ? 1 : 0;
        }
        int[] all = {rods.size(), onSlide, off, factors.size(), strips.get(0).size(), strips.get(1).size(), steps};
        return out(what, 0, 6) ? FAR : all[what];
    }

    long digest() {
        List<Integer> all = new ArrayList<>();
        for (int what = 0; what <= 6; what++) {
            all.add(count(what));
        }
        for (Rod rod : rods) {
            all.addAll(List.of(rod.slide ? 1 : 0, rod.q, rod.fold, rod.turned ? 1 : 0));
            for (int[] span : rod.spans) {
                all.addAll(List.of(span[0], span[1], span[2]));
            }
            all.addAll(List.of(at(rod, 200), at(rod, 300)));
        }
        all.addAll(factors);
        all.addAll(strips.get(0));
        all.addAll(strips.get(1));
        long h = 349;
        for (int v : all) {
            h = 31 * h + v;
        }
        return h;
    }
}
