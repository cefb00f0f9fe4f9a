/**
 * Slide rules: scales cut into whole steps, a slide that moves, chains of
 * products, settings for powers, strips of places and laws cut on strips.
 * What each call answers is told in DOC.md, promise by promise.
 */
public final class SlideRules {
    public static final int NONE = -1, BAD = -2, NO = -3, FULL = -4;
    public static final int FAR = -2000000000;

    private static final int LEAST_LONG = 100, MOST_LONG = 50000, FIRST_LONG = 10000;
    private static final int LEAST_NUMBER = 100, MOST_NUMBER = 100000;
    private static final int LEAST_FACTOR = 100, MOST_FACTOR = 999;
    private static final int LEAST_FOLD = 10, MOST_FOLD = 990;
    private static final int MOST_PARTS = 3;
    private static final int MOST_EACH = 10000;
    private static final int MOST_SCALES = 8;
    private static final int MOST_OFF = 200000;
    private static final int MOST_ASKED_PLACE = 1000000;
    private static final int MOST_PAIR_NUMBERS = 100;
    private static final int MOST_POWER = 8;
    private static final int STRIPS = 2;
    private static final int MOST_STRIP_PLACE = 1000000;
    private static final int MOST_NEAR = 100000;
    private static final int COUNTS = 7;
    private static final long DIGEST_START = 349;

    private final Logs logs = new Logs();
    private final PlainScale plain = new PlainScale();
    private final Scale[] scales = new Scale[MOST_SCALES];
    private final Chain chain = new Chain();
    private final PairSums sums = new PairSums();
    private final Settings settings = new Settings();
    private final Strip[] strips = new Strip[STRIPS];
    private final Match match = new Match();
    private final Laws laws = new Laws();
    private int scaleCount = 0;
    private int steps = FIRST_LONG;
    private int off = 0;

    public SlideRules() {
        for (int i = 0; i < STRIPS; i++) {
            strips[i] = new Strip();
        }
    }

    // ---- scales, marks

    public int rule(int steps) {
        if (steps < LEAST_LONG || steps > MOST_LONG) {
            return BAD;
        }
        int before = this.steps;
        this.steps = steps;
        return before;
    }

    public int scale(boolean slide, int q, int fold, boolean turned) {
        if (q < 1 || q > MOST_PARTS || fold < LEAST_FOLD || fold > MOST_FOLD) {
            return BAD;
        }
        if (scaleCount >= MOST_SCALES) {
            return FULL;
        }
        scales[scaleCount] = new Scale(slide, q, fold, turned);
        scaleCount++;
        return scaleCount - 1;
    }

    public int place(int scale, int v) {
        Scale asked = scaleAt(scale);
        if (asked == null || !isNumber(v)) {
            return FAR;
        }
        return asked.placeOf(v, steps, logs);
    }

    public int span(int scale, int from, int to, int d) {
        Scale asked = scaleAt(scale);
        if (asked == null || !isNumber(from) || !isNumber(to) || from > to || d < 1 || d > MOST_EACH) {
            return BAD;
        }
        if (from <= asked.lastTo()) {
            return NO;
        }
        int more = (to - from) / d + 1;
        if (!asked.hasRoomFor(more)) {
            return FULL;
        }
        asked.addSpan(from, to, d);
        return more;
    }

    public int mark(int scale, int i) {
        Scale asked = scaleAt(scale);
        if (asked == null || i < 0) {
            return BAD;
        }
        return asked.numberAt(i);
    }

    public int marks(int scale) {
        Scale asked = scaleAt(scale);
        return asked == null ? BAD : asked.marks.size;
    }

    public int closest(int scale, int what) {
        Scale asked = scaleAt(scale);
        if (asked == null || what < 0 || what > 1) {
            return BAD;
        }
        asked.placeMarks(steps, logs);
        int first = asked.firstOfClosest();
        if (first == NONE) {
            return NONE;
        }
        return what == 0 ? asked.numberAt(first) : asked.gapBehind(first);
    }

    // ---- the slide

    public int off(int v) {
        if (v < -MOST_OFF || v > MOST_OFF) {
            return FAR;
        }
        int before = off;
        off = v;
        return before;
    }

    public int set(int slide, int u, int body, int w) {
        Scale moved = scaleAt(slide);
        Scale still = scaleAt(body);
        if (moved == null || !moved.onSlide || still == null || still.onSlide) {
            return FAR;
        }
        if (!isNumber(u) || !isNumber(w)) {
            return FAR;
        }
        off = still.placeOf(w, steps, logs) - moved.placeOf(u, steps, logs);
        return off;
    }

    public int against(int scale, int v, int other) {
        Scale asked = scaleAt(scale);
        Scale facing = scaleAt(other);
        if (asked == null || !isNumber(v) || facing == null) {
            return FAR;
        }
        int there = asked.placeOf(v, steps, logs);
        if (asked.onSlide) {
            there += off;
        }
        if (facing.onSlide) {
            there -= off;
        }
        return there;
    }

    public int nearest(int scale, int place) {
        Scale asked = scaleAt(scale);
        if (asked == null || !isAskedPlace(place)) {
            return BAD;
        }
        asked.placeMarks(steps, logs);
        return asked.nearestTo(place);
    }

    public int between(int scale, int place) {
        Scale asked = scaleAt(scale);
        if (asked == null || !isAskedPlace(place)) {
            return BAD;
        }
        asked.placeMarks(steps, logs);
        return asked.readBetween(place);
    }

    // ---- chains

    public int factor(int v) {
        if (!isFactor(v)) {
            return BAD;
        }
        return chain.factors.isFull() ? FULL : chain.factors.append(v);
    }

    public int clear() {
        return chain.factors.empty();
    }

    public int chain(int what) {
        if (what < 0 || what > 4) {
            return FAR;
        }
        plain.cutFor(steps, logs);
        chain.walk(plain);
        switch (what) {
            case 0:
                return chain.place;
            case 1:
                return plain.readingOf(chain.place);
            case 2:
                return chain.truth();
            case 3:
                return plain.readingOf(chain.place) - chain.truth();
            default:
                return chain.pulled;
        }
    }

    public int pairs(int from, int to, int d, int what) {
        if (!isFactor(from) || !isFactor(to) || from > to || d < 1 || d > MOST_EACH || what < 0 || what > 5) {
            return BAD;
        }
        if ((to - from) / d + 1 > MOST_PAIR_NUMBERS) {
            return BAD;
        }
        plain.cutFor(steps, logs);
        sums.sumUp(from, to, d, plain);
        switch (what) {
            case 0:
                return sums.worst;
            case 1:
                return sums.worstA;
            case 2:
                return sums.worstB;
            case 3:
                return sums.sum;
            case 4:
                return sums.many;
            default:
                return sums.pulled;
        }
    }

    // ---- settings, strips, laws

    public int fewest(int e0, int e1, int e2) {
        if (!isPower(e0) || !isPower(e1) || !isPower(e2)) {
            return BAD;
        }
        aimSettings(e0, e1, e2);
        return settings.fewestToGoal();
    }

    public int setting(int e0, int e1, int e2, int i) {
        if (!isPower(e0) || !isPower(e1) || !isPower(e2) || i < 0) {
            return BAD;
        }
        aimSettings(e0, e1, e2);
        return settings.codeAt(i);
    }

    public int cut(int strip, int place) {
        if (!isStrip(strip) || place < 0 || place > MOST_STRIP_PLACE || place <= strips[strip].places.last()) {
            return BAD;
        }
        return strips[strip].places.isFull() ? FULL : strips[strip].places.append(place);
    }

    public int wipe(int strip) {
        return isStrip(strip) ? strips[strip].places.empty() : BAD;
    }

    public int chosen(int strip, int near, int what) {
        if (!isStrip(strip) || near < 1 || near > MOST_NEAR || what < NONE) {
            return BAD;
        }
        return strips[strip].choose(near, what);
    }

    public int match(int what) {
        if (what < 0 || what > 1) {
            return FAR;
        }
        if (strips[0].places.size == 0 || strips[1].places.size == 0) {
            return FAR;
        }
        match.find(strips[0].places, strips[1].places);
        return what == 0 ? match.shift : match.many;
    }

    public int law(int law, int v) {
        if (!Laws.isLaw(law) || v < 1 || v > Laws.NUMBERS) {
            return BAD;
        }
        return Laws.placeOf(law, v, steps);
    }

    public int doubled(int law) {
        return Laws.isLaw(law) ? laws.doublesOf(law, steps) : BAD;
    }

    public int count(int what) {
        switch (what) {
            case 0:
                return scaleCount;
            case 1:
                return scalesOnSlide();
            case 2:
                return off;
            case 3:
                return chain.factors.size;
            case 4:
                return strips[0].places.size;
            case 5:
                return strips[1].places.size;
            case 6:
                return steps;
            default:
                return FAR;
        }
    }

    public long digest() {
        long h = DIGEST_START;
        for (int what = 0; what < COUNTS; what++) {
            h = 31 * h + count(what);
        }
        for (int i = 0; i < scaleCount; i++) {
            h = scales[i].digestOnto(h);
            h = 31 * h + place(i, 200);
            h = 31 * h + place(i, 300);
        }
        h = chain.factors.digestOnto(h);
        for (int i = 0; i < STRIPS; i++) {
            h = strips[i].places.digestOnto(h);
        }
        return h;
    }

    // ---- what is as told

    private Scale scaleAt(int scale) {
        return scale >= 0 && scale < scaleCount ? scales[scale] : null;
    }

    private static boolean isNumber(int v) {
        return v >= LEAST_NUMBER && v <= MOST_NUMBER;
    }

    private static boolean isFactor(int v) {
        return v >= LEAST_FACTOR && v <= MOST_FACTOR;
    }

    private static boolean isAskedPlace(int place) {
        return place >= -MOST_ASKED_PLACE && place <= MOST_ASKED_PLACE;
    }

    private static boolean isPower(int e) {
        return e >= -MOST_POWER && e <= MOST_POWER;
    }

    private static boolean isStrip(int strip) {
        return strip >= 0 && strip < STRIPS;
    }

    private int scalesOnSlide() {
        int many = 0;
        for (int i = 0; i < scaleCount; i++) {
            if (scales[i].onSlide) {
                many++;
            }
        }
        return many;
    }

    private void aimSettings(int e0, int e1, int e2) {
        settings.forgetParts();
        for (int i = 0; i < scaleCount; i++) {
            if (scales[i].onSlide) {
                settings.allow(scales[i].parts, scales[i].turned);
            }
        }
        settings.aimAt(e0, e1, e2);
    }

    /** Numbers in a row, as they come, no more than the row takes. */
    private static final class Row {
        final int[] values;
        int size = 0;

        Row(int most) {
            values = new int[Math.max(most, 0)];
        }

        boolean isFull() {
            return size >= values.length;
        }

        /** Puts v behind the row: how many there are. */
        int append(int v) {
            if (!isFull()) {
                values[size] = v;
                size++;
            }
            return size;
        }

        /** Empties the row: how many there were. */
        int empty() {
            int before = size;
            size = 0;
            return before;
        }

        /** The last number, or NONE. */
        int last() {
            return size > 0 ? values[size - 1] : NONE;
        }

        long digestOnto(long h) {
            for (int i = 0; i < size; i++) {
                h = 31 * h + values[i];
            }
            return h;
        }
    }

    /** A number in two words: high steps of 2^-44 and low (0 .. 2^44 - 1) steps of 2^-88. */
    private static final class Wide {
        static final int BITS = 44;
        private static final long MASK = (1L << BITS) - 1;

        long high = 0;
        long low = 0;

        void put(long newHigh, long newLow) {
            high = newHigh;
            low = newLow;
        }

        /** Adds other (0 or more) by a small divisor, cut down. */
        void addPart(Wide other, int by) {
            if (by < 1) {
                return;
            }
            long rest = other.high % by;
            long sum = low + ((rest << BITS) + other.low) / by;
            high += other.high / by + (sum >> BITS);
            low = sum & MASK;
        }

        void subtract(Wide other) {
            long rest = low - other.low;
            high += (rest >> BITS) - other.high;
            low = rest & MASK;
        }

        /** This (0 .. 1) times over by, cut down: times below 2^7 and by below 2^18, so that no word runs over. */
        void shrink(int times, int by) {
            if (by < 1) {
                return;
            }
            long upper = high * times;
            long lower = (((upper % by) << BITS) + low * times) / by;
            high = upper / by + (lower >> BITS);
            low = lower & MASK;
        }

        boolean isZero() {
            return high == 0 && low == 0;
        }

        /** The whole part, cut down, of this (-3 .. 3) times n (0 .. 100000). */
        long floorTimes(int n) {
            return (high * n + ((low * n) >> BITS)) >> BITS;
        }
    }

    /**
     * Logarithms of base ten, to within 2^-74. No place that the document
     * allows comes nearer to a half step than 3.9e-13 without standing on it,
     * so these decide every rounding; ratios that are powers of ten come out
     * exact, as both numbers then have the same row of the table.
     */
    private static final class Logs {
        private static final int LEAST_LEAD = 100, LEADS = 900;
        private static final int MOST_ZEROS = 3;
        private static final int MOST_ODD = 99;
        // 2 by the natural logarithm of 10, in the two words of a Wide
        private static final long FACTOR_HIGH = 15280378647410L, FACTOR_LOW = 9283927628714L;

        private final long[] highs = new long[LEADS];
        private final long[] lows = new long[LEADS];
        private final Wide term = new Wide();
        private final Wide top = new Wide();
        private final Wide bottom = new Wide();

        /** Row i holds the logarithm of (100 and i) by 100. */
        Logs() {
            Wide sum = new Wide();
            for (int i = 1; i < LEADS; i++) {
                addGrowth(sum, 1, 2 * (LEAST_LEAD + i) - 1);
                highs[i] = sum.high;
                lows[i] = sum.low;
            }
        }

        /** Adds the logarithm of (by + rest) / (by - rest) by the odd powers of rest / by. */
        private void addGrowth(Wide sum, int rest, int by) {
            if (rest < 1) {
                return;
            }
            term.put(FACTOR_HIGH, FACTOR_LOW);
            term.shrink(rest, by);
            for (int odd = 1; odd <= MOST_ODD && !term.isZero(); odd += 2) {
                sum.addPart(term, odd);
                term.shrink(rest, by);
                term.shrink(rest, by);
            }
        }

        /** Puts into sum the logarithm of v (100 .. 100000) by 100. */
        private void putLog(Wide sum, int v) {
            int zeros = 0;
            int unit = 1;
            while (zeros < MOST_ZEROS && v / unit >= LEAST_LEAD + LEADS) {
                zeros++;
                unit *= 10;
            }
            int row = v / unit - LEAST_LEAD;
            if (row < 0 || row >= LEADS) {
                return;
            }
            sum.put(highs[row] + ((long) zeros << Wide.BITS), lows[row]);
            int base = (row + LEAST_LEAD) * unit;
            addGrowth(sum, v - base, v + base);
        }

        /** The PLACE on a RULE of so many steps, by its PARTS and FOLD, not TURNED. */
        int placeOf(int v, int steps, int parts, int fold) {
            if (parts < 1) {
                return 0;
            }
            putLog(top, v);
            putLog(bottom, 10 * fold);
            top.subtract(bottom);
            long twice = top.floorTimes(2 * steps);
            return (int) Math.floorDiv(twice + parts, 2L * parts);
        }
    }

    /** A SCALE with its MARKS, and the PLACES of them on the RULE last asked for. */
    private static final class Scale {
        private static final int MOST_SPANS = 4, MOST_MARKS = 400;

        final boolean onSlide;
        final int parts;
        final int fold;
        final boolean turned;
        final Row marks = new Row(MOST_MARKS);
        private int spans = 0;
        private final int[] froms = new int[MOST_SPANS];
        private final int[] tos = new int[MOST_SPANS];
        private final int[] eachs = new int[MOST_SPANS];
        private final int[] places = new int[MOST_MARKS];
        private int placed = 0;
        private int placedSteps = 0;

        Scale(boolean onSlide, int parts, int fold, boolean turned) {
            this.onSlide = onSlide;
            this.parts = parts;
            this.fold = fold;
            this.turned = turned;
        }

        int placeOf(int v, int steps, Logs logs) {
            int straight = logs.placeOf(v, steps, parts, fold);
            return turned ? steps - straight : straight;
        }

        int lastTo() {
            return spans > 0 ? tos[spans - 1] : 0;
        }

        boolean hasRoomFor(int more) {
            return spans < MOST_SPANS && more <= MOST_MARKS - marks.size;
        }

        void addSpan(int from, int to, int each) {
            if (spans >= MOST_SPANS || each < 1) {
                return;
            }
            froms[spans] = from;
            tos[spans] = to;
            eachs[spans] = each;
            spans++;
            for (int v = from; v <= to && !marks.isFull(); v += each) {
                marks.append(v);
            }
        }

        int numberAt(int i) {
            return i >= 0 && i < marks.size ? marks.values[i] : NONE;
        }

        /** Places what is not yet placed on a RULE of so many steps. */
        void placeMarks(int steps, Logs logs) {
            if (placedSteps != steps) {
                placedSteps = steps;
                placed = 0;
            }
            for (; placed < marks.size; placed++) {
                places[placed] = placeOf(marks.values[placed], steps, logs);
            }
        }

        /** How far the PLACES of the i-th and the next MARK are apart. */
        int gapBehind(int i) {
            return i >= 0 && i + 1 < marks.size ? Math.abs(places[i + 1] - places[i]) : NONE;
        }

        int firstOfClosest() {
            int first = marks.size > 1 ? 0 : NONE;
            for (int i = 1; i + 1 < marks.size; i++) {
                if (gapBehind(i) < gapBehind(first)) {
                    first = i;
                }
            }
            return first;
        }

        int nearestTo(int place) {
            int best = marks.size > 0 ? 0 : NONE;
            for (int i = 1; i < marks.size; i++) {
                if (Math.abs(places[i] - place) < Math.abs(places[best] - place)) {
                    best = i;
                }
            }
            return numberAt(best);
        }

        int readBetween(int place) {
            for (int i = 0; i + 1 < marks.size; i++) {
                int p1 = places[i];
                int p2 = places[i + 1];
                if (p1 != p2 && Math.min(p1, p2) <= place && place <= Math.max(p1, p2)) {
                    long wide = marks.values[i + 1] - marks.values[i];
                    return marks.values[i] + (int) (wide * (place - p1) / (p2 - p1));
                }
            }
            return NONE;
        }

        long digestOnto(long h) {
            h = 31 * h + (onSlide ? 1 : 0);
            h = 31 * h + parts;
            h = 31 * h + fold;
            h = 31 * h + (turned ? 1 : 0);
            for (int i = 0; i < spans; i++) {
                h = 31 * h + froms[i];
                h = 31 * h + tos[i];
                h = 31 * h + eachs[i];
            }
            return h;
        }
    }

    /** The plain SCALE of one tenfold, cut when it is asked for: PLACES of 100 .. 999, which never fall. */
    private static final class PlainScale {
        private static final int NUMBERS = MOST_FACTOR - LEAST_FACTOR + 1;

        int steps = 0;
        private final int[] places = new int[NUMBERS];

        void cutFor(int newSteps, Logs logs) {
            if (newSteps == steps) {
                return;
            }
            steps = newSteps;
            for (int i = 0; i < NUMBERS; i++) {
                places[i] = logs.placeOf(LEAST_FACTOR + i, newSteps, 1, LEAST_FOLD);
            }
        }

        int placeOf(int v) {
            return isFactor(v) ? places[v - LEAST_FACTOR] : 0;
        }

        /** The first row whose PLACE is no less than place, or NUMBERS. */
        private int firstFrom(int place) {
            int low = 0;
            int high = NUMBERS;
            while (low < high) {
                int middle = (low + high) / 2;
                if (places[middle] < place) {
                    low = middle + 1;
                } else {
                    high = middle;
                }
            }
            return low;
        }

        int readingOf(int place) {
            int above = firstFrom(place);
            if (above == 0) {
                return LEAST_FACTOR;
            }
            int below = places[above - 1];
            if (above < NUMBERS && places[above] - place < place - below) {
                return LEAST_FACTOR + above;
            }
            return LEAST_FACTOR + firstFrom(below);
        }
    }

    /** A PRODUCT CHAIN: its factors, and the place that they come to. */
    private static final class Chain {
        private static final int MOST_FACTORS = 12;
        // 12 factors below a thousand come to less than 10^36: four limbs
        private static final int LIMBS = 4;
        private static final long LIMB = 1000000000L;

        final Row factors = new Row(MOST_FACTORS);
        int place = 0;
        int pulled = 0;
        private final long[] limbs = new long[LIMBS];

        void begin() {
            place = 0;
            pulled = 0;
        }

        void move(int v, PlainScale plain) {
            place += plain.placeOf(v);
            if (place >= plain.steps) {
                place -= plain.steps;
                pulled++;
            }
        }

        void walk(PlainScale plain) {
            begin();
            for (int i = 0; i < factors.size; i++) {
                move(factors.values[i], plain);
            }
        }

        /** THE TRUTH is the first three digits of the whole product, each factor having three. */
        int truth() {
            if (factors.size == 0) {
                return LEAST_FACTOR;
            }
            multiplyOut();
            int top = LIMBS - 1;
            while (top > 0 && limbs[top] == 0) {
                top--;
            }
            return firstThree(top > 0 ? limbs[top] * LIMB + limbs[top - 1] : limbs[0]);
        }

        private void multiplyOut() {
            for (int i = 0; i < LIMBS; i++) {
                limbs[i] = i == 0 ? 1 : 0;
            }
            for (int k = 0; k < factors.size; k++) {
                long carry = 0;
                for (int i = 0; i < LIMBS; i++) {
                    long made = limbs[i] * factors.values[k] + carry;
                    limbs[i] = made % LIMB;
                    carry = made / LIMB;
                }
            }
        }

        static int firstThree(long product) {
            long lead = product;
            while (lead > MOST_FACTOR) {
                lead /= 10;
            }
            return (int) lead;
        }
    }

    /** OF PAIRS: kept with what was asked, so that six questions about the same pairs take one pass. */
    private static final class PairSums {
        int worst = 0;
        int worstA = 0;
        int worstB = 0;
        int sum = 0;
        int many = 0;
        int pulled = 0;
        private int from = 0;
        private int to = 0;
        private int each = 0;
        private int steps = 0;
        private final Chain chain = new Chain();

        void sumUp(int newFrom, int newTo, int newEach, PlainScale plain) {
            if (newEach < 1 || from == newFrom && to == newTo && each == newEach && steps == plain.steps) {
                return;
            }
            from = newFrom;
            to = newTo;
            each = newEach;
            steps = plain.steps;
            worst = NONE;
            sum = 0;
            many = 0;
            pulled = 0;
            for (int a = from; a <= to; a += each) {
                for (int b = a; b <= to; b += each) {
                    take(a, b, plain);
                }
            }
        }

        private void take(int a, int b, PlainScale plain) {
            chain.begin();
            chain.move(a, plain);
            chain.move(b, plain);
            int miss = Math.abs(plain.readingOf(chain.place) - Chain.firstThree((long) a * b));
            if (miss > worst) {
                worst = miss;
                worstA = a;
                worstB = b;
            }
            sum += miss;
            many++;
            pulled += chain.pulled;
        }
    }

    /**
     * SETTINGS to a goal of three powers. Each setting moves one power alone,
     * so the fewest of all are the fewest of each, and any setting that brings
     * its power nearer is on a shortest row. Powers may leave -8 .. 8 on the
     * way; but eight settings of no more than three each are enough for any
     * power told, so no shortest row leaves the REACH.
     */
    private static final class Settings {
        private static final int POWERS = 3;
        private static final int REACH = MOST_POWER * MOST_PARTS;
        private static final int WIDTH = 2 * REACH + 1;

        private final boolean[] multiplies = new boolean[MOST_PARTS + 1];
        private final boolean[] divides = new boolean[MOST_PARTS + 1];
        // away[k][x]: the fewest settings from power x - REACH of number k to its goal, or NONE
        private final int[][] away = new int[POWERS][WIDTH];
        private final int[] now = new int[POWERS];

        void forgetParts() {
            for (int s = 0; s <= MOST_PARTS; s++) {
                multiplies[s] = false;
                divides[s] = false;
            }
        }

        void allow(int s, boolean turned) {
            if (s < 1 || s > MOST_PARTS) {
                return;
            }
            divides[s] = true;
            if (!turned) {
                multiplies[s] = true;
            }
        }

        void aimAt(int e0, int e1, int e2) {
            measure(away[0], e0 + REACH);
            measure(away[1], e1 + REACH);
            measure(away[2], e2 + REACH);
        }

        private void measure(int[] row, int goal) {
            for (int x = 0; x < WIDTH; x++) {
                row[x] = x == goal ? 0 : NONE;
            }
            for (int far = 0; far < WIDTH; far++) {
                for (int x = 0; x < WIDTH; x++) {
                    if (row[x] == far) {
                        reachBack(row, x);
                    }
                }
            }
        }

        /** Numbers the powers from which one setting comes to x. */
        private void reachBack(int[] row, int x) {
            for (int s = 1; s <= MOST_PARTS; s++) {
                if (multiplies[s] && x - s >= 0 && row[x - s] == NONE) {
                    row[x - s] = row[x] + 1;
                }
                if (divides[s] && x + s < WIDTH && row[x + s] == NONE) {
                    row[x + s] = row[x] + 1;
                }
            }
        }

        int fewestToGoal() {
            int many = 0;
            for (int k = 0; k < POWERS; k++) {
                if (away[k][REACH] == NONE) {
                    return NONE;
                }
                many += away[k][REACH];
            }
            return many;
        }

        int codeAt(int i) {
            if (i >= fewestToGoal()) {
                return NONE;
            }
            for (int k = 0; k < POWERS; k++) {
                now[k] = REACH;
            }
            int code = NONE;
            for (int made = 0; made <= i; made++) {
                code = makeFirst();
            }
            return code;
        }

        /** Makes the first setting, in the order of their codes, that comes nearer to the goal. */
        private int makeFirst() {
            for (int sort = 0; sort <= 1; sort++) {
                for (int k = 0; k < POWERS; k++) {
                    for (int s = 1; s <= MOST_PARTS; s++) {
                        int next = sort == 0 ? now[k] + s : now[k] - s;
                        if ((sort == 0 ? multiplies[s] : divides[s]) && isNearer(k, next)) {
                            now[k] = next;
                            return 100 * sort + 10 * k + s;
                        }
                    }
                }
            }
            return NONE;
        }

        private boolean isNearer(int k, int next) {
            return next >= 0 && next < WIDTH && away[k][next] != NONE && away[k][next] < away[k][now[k]];
        }
    }

    /** A STRIP: places, rising. */
    private static final class Strip {
        private static final int MOST_PLACES = 60;

        final Row places = new Row(MOST_PLACES);

        /** The place CHOSEN as number which; how many are CHOSEN, if which is NONE. */
        int choose(int near, int which) {
            int many = 0;
            int latest = 0;
            for (int i = 0; i < places.size; i++) {
                int place = places.values[i];
                if (many == 0 || place - latest >= near) {
                    if (many == which) {
                        return place;
                    }
                    latest = place;
                    many++;
                }
            }
            return which == NONE ? many : NONE;
        }
    }

    /** CUT of both STRIPS: the move of the second that brings most of its places onto the first's. */
    private static final class Match {
        int shift = 0;
        int many = 0;

        void find(Row first, Row second) {
            many = 0;
            shift = 0;
            for (int i = 0; i < first.size; i++) {
                for (int j = 0; j < second.size; j++) {
                    // what begins at (i, j) is no more than what is left of either
                    if (Math.min(first.size - i, second.size - j) >= many) {
                        weigh(first.values[i] - second.values[j], alike(first, i, second, j));
                    }
                }
            }
        }

        /** How many places from rows i and j on are alike when the second is moved so that these two are. */
        private static int alike(Row first, int i, Row second, int j) {
            int moved = first.values[i] - second.values[j];
            int same = 0;
            int below = j;
            for (int above = i; above < first.size; above++) {
                int wanted = first.values[above] - moved;
                while (below < second.size && second.values[below] < wanted) {
                    below++;
                }
                if (below < second.size && second.values[below] == wanted) {
                    same++;
                }
            }
            return same;
        }

        private void weigh(int newShift, int newMany) {
            int smaller = Math.abs(shift) - Math.abs(newShift);
            boolean nearer = smaller > 0 || smaller == 0 && newShift > shift;
            if (newMany > many || newMany == many && nearer) {
                shift = newShift;
                many = newMany;
            }
        }
    }

    /** RULERS of laws. */
    private static final class Laws {
        static final int NUMBERS = 60;
        private static final int SQUARES = 0, CUBES = 1, PARTS = 2, TRIANGLES = 3;

        private final int[] places = new int[NUMBERS];

        static boolean isLaw(int law) {
            return law >= SQUARES && law <= TRIANGLES;
        }

        private static long numberOf(int law, int v) {
            switch (law) {
                case SQUARES:
                    return (long) v * v;
                case CUBES:
                    return (long) v * v * v;
                case PARTS:
                    return v == 0 ? 0 : 1000000 / v;
                default:
                    return (long) v * (v + 1) / 2;
            }
        }

        /** The v of row i, so that the numbers rise with i. */
        private static int inOrder(int law, int i) {
            return law == PARTS ? NUMBERS - i : 1 + i;
        }

        static int placeOf(int law, int v, int steps) {
            long first = numberOf(law, inOrder(law, 0));
            long wide = numberOf(law, inOrder(law, NUMBERS - 1)) - first;
            if (wide < 1) {
                return 0;
            }
            return (int) ((2 * (numberOf(law, v) - first) * steps + wide) / (2 * wide));
        }

        int doublesOf(int law, int steps) {
            for (int i = 0; i < NUMBERS; i++) {
                places[i] = placeOf(law, inOrder(law, i), steps);
            }
            int many = 0;
            for (int i = 0; i < NUMBERS; i++) {
                many += doublesFrom(i);
            }
            return many;
        }

        /** How many sums of the i-th place and a later one are places; the sums rise, so one walk finds them. */
        private int doublesFrom(int i) {
            int many = 0;
            int k = 0;
            for (int j = i + 1; j < NUMBERS; j++) {
                int sum = places[i] + places[j];
                while (k < NUMBERS && places[k] < sum) {
                    k++;
                }
                if (k < NUMBERS && places[k] == sum) {
                    many++;
                }
            }
            return many;
        }
    }
}
