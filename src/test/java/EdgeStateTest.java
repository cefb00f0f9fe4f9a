/** The edges that the document names for a whole object (promises 1, 26, 27, and what is refused), each by itself. */
public final class EdgeStateTest {
    private static final int NONE = Edges.NONE, BAD = Edges.BAD, NO = Edges.NO, FULL = Edges.FULL, FAR = Edges.FAR;

    public static void main(String[] args) {
        constantsAsTold();
        countsAtFirst();
        countsToTheirEnds();
        countsOfAFullObject();
        countOfOffMayLookRefused();
        digestAtFirst();
        digestOfOneThing();
        digestOfScalesAsTheyCame();
        digestHasThePlacesOfNow();
        digestOfFactorsAndStripsAsTheyStand();
        digestWrapsAround();
        fullObjectRefuses();
        objectsShareNothing();
        fiveHundredAndTwelveCalls();
        callsBehindTheLastEnd();
        Check.end();
    }

    private static long digestOf(long... values) {
        long h = 349;
        for (long v : values) {
            h = 31 * h + v;
        }
        return h;
    }

    private static void constantsAsTold() {
        Check.due("NONE", SlideRules.NONE, NONE);
        Check.due("BAD", SlideRules.BAD, BAD);
        Check.due("NO", SlideRules.NO, NO);
        Check.due("FULL", SlideRules.FULL, FULL);
        Check.due("FAR", SlideRules.FAR, FAR);
    }

    /** "SlideRules(): As told; no SCALES." */
    private static void countsAtFirst() {
        int[] due = {0, 0, 0, 0, 0, 0, 10000};
        for (int i = 0; i < due.length; i++) {
            int what = i;
            Edges.leaves(new SlideRules(), "count(" + what + ") at first", due[i], y -> y.count(what));
        }
    }

    /** "0 SCALES .. 6 LONG. BAD: FAR." */
    private static void countsToTheirEnds() {
        SlideRules x = new SlideRules();
        for (int what : new int[] {Edges.MIN, -1, 7, Edges.MAX}) {
            Edges.leaves(x, "count(" + what + ")", FAR, y -> y.count(what));
        }
    }

    private static SlideRules full() {
        SlideRules x = new SlideRules();
        x.rule(50000);
        for (int i = 0; i < 8; i++) {
            x.scale(true, 3, 990, true);
            for (int k = 0; k < 4; k++) {
                x.span(i, 1000 * (k + 1), 1000 * (k + 1) + 99, 1);
            }
        }
        x.off(-200000);
        for (int i = 0; i < 12; i++) {
            x.factor(999);
        }
        for (int i = 0; i < 60; i++) {
            x.cut(0, i);
            x.cut(1, 999941 + i);
        }
        return x;
    }

    private static void countsOfAFullObject() {
        SlideRules x = full();
        int[] due = {8, 8, -200000, 12, 60, 60, 50000};
        for (int i = 0; i < due.length; i++) {
            int what = i;
            Edges.leaves(x, "count(" + what + ") of a full object", due[i], y -> y.count(what));
        }
        for (int scale = 0; scale < 8; scale++) {
            Check.due("MARKS of " + scale, x.marks(scale), 400);
        }
    }

    /** OFF may be a number that other calls refuse with: FAR is beyond all that OFF can be. */
    private static void countOfOffMayLookRefused() {
        SlideRules x = new SlideRules();
        for (int off = -5; off < 0; off++) {
            x.off(off);
            Check.due("OFF " + off, x.count(2), off);
        }
    }

    /** "h = 349; then h = 31 h + v for each v: count(0) to count(6)": of a new object no more */
    private static void digestAtFirst() {
        Check.due("digest at first", new SlideRules().digest(), digestOf(0, 0, 0, 0, 0, 0, 10000));
    }

    /** Each thing alone, at its place among the others. */
    private static void digestOfOneThing() {
        SlideRules off = new SlideRules();
        off.off(-1);
        Check.due("OFF alone", off.digest(), digestOf(0, 0, -1, 0, 0, 0, 10000));
        SlideRules factor = new SlideRules();
        factor.factor(100);
        Check.due("a factor alone", factor.digest(), digestOf(0, 0, 0, 1, 0, 0, 10000, 100));
        SlideRules first = new SlideRules();
        first.cut(0, 0);
        Check.due("a place of the first STRIP alone", first.digest(), digestOf(0, 0, 0, 0, 1, 0, 10000, 0));
        SlideRules second = new SlideRules();
        second.cut(1, 1000000);
        Check.due("a place of the second alone", second.digest(), digestOf(0, 0, 0, 0, 0, 1, 10000, 1000000));
        SlideRules rule = new SlideRules();
        rule.rule(100);
        Check.due("LONG alone", rule.digest(), digestOf(0, 0, 0, 0, 0, 0, 100));
        SlideRules scale = new SlideRules();
        scale.scale(false, 1, 10, false);
        Check.due("a SCALE alone", scale.digest(), digestOf(1, 0, 0, 0, 0, 0, 10000, 0, 1, 10, 0, 3010, 4771));
    }

    /** "of SCALES SLIDE (1, 0), q, FOLD, TURNED (1, 0), of SPANS from, to, d": the to as told, not the last MARK */
    private static void digestOfScalesAsTheyCame() {
        SlideRules x = Edges.withScales(1);
        x.scale(true, 2, 100, true);
        x.span(1, 500, 509, 10);
        x.span(0, 200, 305, 10);
        x.span(1, 600, 600, 10000);
        Check.due("two SCALES", x.digest(), digestOf(2, 1, 0, 0, 0, 0, 10000,
                0, 1, 10, 0, 200, 305, 10, 3010, 4771,
                1, 2, 100, 1, 500, 509, 10, 600, 600, 10000, 13495, 12614));
    }

    /** "PLACES of 200, 300 on it": by the LONG of now, TURNED and folded, OFF not asked */
    private static void digestHasThePlacesOfNow() {
        SlideRules x = new SlideRules();
        x.scale(true, 1, 30, true);
        x.off(9);
        Check.due("LONG 10000", x.digest(), digestOf(1, 1, 9, 0, 0, 0, 10000, 1, 1, 30, 1, 11761, 10000));
        x.rule(100);
        Check.due("LONG 100", x.digest(), digestOf(1, 1, 9, 0, 0, 0, 100, 1, 1, 30, 1, 118, 100));
    }

    /** "factors; places of STRIPS" - what was emptied is gone */
    private static void digestOfFactorsAndStripsAsTheyStand() {
        SlideRules x = new SlideRules();
        x.factor(999);
        x.factor(100);
        x.cut(1, 4);
        x.cut(0, 8);
        x.cut(0, 9);
        Check.due("factors, the first STRIP, the second", x.digest(),
                digestOf(0, 0, 0, 2, 2, 1, 10000, 999, 100, 8, 9, 4));
        x.clear();
        Check.due("no factors", x.digest(), digestOf(0, 0, 0, 0, 2, 1, 10000, 8, 9, 4));
        x.wipe(0);
        Check.due("no first STRIP", x.digest(), digestOf(0, 0, 0, 0, 0, 1, 10000, 4));
        x.wipe(1);
        Check.due("as at first", x.digest(), new SlideRules().digest());
    }

    /** A long runs over many times in the digest of a full object. */
    private static void digestWrapsAround() {
        SlideRules x = full();
        long[] all = new long[7 + 8 * 18 + 12 + 120];
        int at = 0;
        for (int what = 0; what < 7; what++) {
            all[at++] = x.count(what);
        }
        for (int i = 0; i < 8; i++) {
            for (long v : new long[] {1, 3, 990, 1}) {
                all[at++] = v;
            }
            for (int k = 1; k <= 4; k++) {
                all[at++] = 1000 * k;
                all[at++] = 1000 * k + 99;
                all[at++] = 1;
            }
            all[at++] = x.place(i, 200);
            all[at++] = x.place(i, 300);
        }
        for (int i = 0; i < 12; i++) {
            all[at++] = 999;
        }
        for (int i = 0; i < 120; i++) {
            all[at++] = i < 60 ? i : 999941 + i - 60;
        }
        Check.due("numbers in all", at, all.length);
        Check.due("digest of a full object", x.digest(), digestOf(all));
    }

    /** "Refused, changing nothing": all that can be full is. */
    private static void fullObjectRefuses() {
        SlideRules x = full();
        Edges.leaves(x, "a ninth SCALE", FULL, y -> y.scale(false, 1, 10, false));
        Edges.leaves(x, "a fifth SPAN", FULL, y -> y.span(7, 5000, 5000, 1));
        Edges.leaves(x, "a SPAN too early", NO, y -> y.span(7, 4099, 5000, 1));
        Edges.leaves(x, "a 13th factor", FULL, y -> y.factor(100));
        Edges.leaves(x, "a 61st place", FULL, y -> y.cut(0, 60));
        Edges.leaves(x, "a 61st place that can not be", BAD, y -> y.cut(1, 1000001));
        Edges.leaves(x, "no SCALE on the BODY", FAR, y -> y.set(0, 200, 1, 200));
    }

    /** What one object holds or was asked, another does not show. */
    private static void objectsShareNothing() {
        SlideRules x = full();
        SlideRules y = new SlideRules();
        x.pairs(100, 199, 1, 0);
        x.fewest(8, 8, 6);
        Check.due("a new object beside a full one", y.digest(), digestOf(0, 0, 0, 0, 0, 0, 10000));
        Check.due("its CHAIN", y.chain(1), 100);
        Check.due("its SETTINGS", y.fewest(1, 0, 0), NONE);
        Check.due("its PAIRS", y.pairs(300, 330, 10, 3), 2);
        long before = x.digest();
        y.rule(100);
        y.scale(false, 1, 10, false);
        Check.due("the full one", x.digest(), before);
        Check.due("LONG of the full one", x.count(6), 50000);
    }

    /** "An object is used for at most 512 calls": the 512th answers as the first. */
    private static void fiveHundredAndTwelveCalls() {
        SlideRules x = Edges.withScales(2);
        for (int call = 3; call < 512; call += 2) {
            int steps = call % 4 == 3 ? 100 : 10000;
            x.rule(steps);
            Check.due("call " + (call + 1), x.place(1, 200), steps == 100 ? 30 : 3010);
        }
        SlideRules y = new SlideRules();
        for (int call = 1; call <= 511; call++) {
            y.cut(call % 2, call);
        }
        Check.due("the 512th call", y.count(4), 60);
    }

    /** "what later calls answer is free" - but they end. */
    private static void callsBehindTheLastEnd() {
        SlideRules x = full();
        for (int call = 0; call < 3000; call++) {
            x.rule(100 + call);
            x.off(call);
            x.set(0, 200, 1, 300);
            x.nearest(call % 8, call);
            x.between(call % 8, call);
            x.closest(call % 8, 1);
            x.chain(call % 5);
            x.match(0);
            x.doubled(call % 4);
            x.digest();
        }
        Check.due("LONG at last", x.count(6), 3099);
    }
}
