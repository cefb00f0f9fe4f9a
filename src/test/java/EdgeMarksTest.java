/** The edges that the document names for SPANS and MARKS (promises 5 to 8), each sentence by itself. */
public final class EdgeMarksTest {
    private static final int NONE = Edges.NONE, BAD = Edges.BAD, NO = Edges.NO, FULL = Edges.FULL;

    public static void main(String[] args) {
        spanNumbersToTheirEnds();
        spanOfNoNumbers();
        eachToItsEnds();
        noMoreThanTo();
        behindTheToOfTheOneAhead();
        whatIsRefusedLeavesTheEnd();
        eachScaleHasSpansOfItsOwn();
        fourSpans();
        fourHundredMarks();
        firstOfBadNoFull();
        marksToTheirEnds();
        noSoManyMarks();
        closestOfFewerThanTwo();
        closestBadGoesFirst();
        closestOfLikeOnes();
        closestAtTheEnds();
        closestByTheRuleOfNow();
        closestTurned();
        Check.end();
    }

    /** "v: 100 .. 100000" */
    private static void spanNumbersToTheirEnds() {
        SlideRules x = Edges.withScales(1);
        Edges.leaves(x, "from 99", BAD, y -> y.span(0, 99, 200, 1));
        Edges.leaves(x, "from min", BAD, y -> y.span(0, Edges.MIN, 200, 1));
        Edges.leaves(x, "to 100001", BAD, y -> y.span(0, 99999, 100001, 1));
        Edges.leaves(x, "to max", BAD, y -> y.span(0, 99999, Edges.MAX, 1));
        Edges.leaves(x, "both 100001", BAD, y -> y.span(0, 100001, 100001, 1));
        Edges.leaves(x, "both 99", BAD, y -> y.span(0, 99, 99, 1));
        Edges.leaves(x, "scale -1", BAD, y -> y.span(-1, 100, 200, 1));
        Edges.leaves(x, "scale 1", BAD, y -> y.span(1, 100, 200, 1));
        Check.due("from 100", x.span(0, 100, 100, 1), 1);
        Check.due("to 100000", x.span(0, 99999, 100000, 1), 2);
        Check.due("the last MARK", x.mark(0, 2), 100000);
    }

    /** "numbers v from .. to": from above to, there are none. */
    private static void spanOfNoNumbers() {
        SlideRules x = Edges.withScales(1);
        Edges.leaves(x, "from 201 to 200", BAD, y -> y.span(0, 201, 200, 1));
        Edges.leaves(x, "from 100000 to 100", BAD, y -> y.span(0, 100000, 100, 10000));
        Check.due("from 200 to 200", x.span(0, 200, 200, 1), 1);
    }

    /** "each d (1 .. 10000)" */
    private static void eachToItsEnds() {
        SlideRules x = Edges.withScales(1);
        for (int d : new int[] {Edges.MIN, -1, 0, 10001, Edges.MAX}) {
            Edges.leaves(x, "each " + d, BAD, y -> y.span(0, 100, 20100, d));
        }
        Check.due("each 1", x.span(0, 100, 102, 1), 3);
        Check.due("each 10000", x.span(0, 103, 20103, 10000), 3);
        Check.due("each 10000, the last", x.mark(0, 5), 20103);
    }

    /** "from, from and d, .. no more than to" */
    private static void noMoreThanTo() {
        SlideRules x = Edges.withScales(1);
        Check.due("to is one", x.span(0, 100, 130, 10), 4);
        Check.due("a step behind is not", x.span(0, 200, 229, 10), 3);
        Check.due("from alone, d one too many", x.span(0, 300, 309, 10), 1);
        Check.due("from and to", x.span(0, 400, 410, 10), 2);
        int[] due = {100, 110, 120, 130, 200, 210, 220, 300, 400, 410};
        for (int i = 0; i < due.length; i++) {
            Check.due("MARK " + i, x.mark(0, i), due[i]);
        }
        Check.due("all of them", x.marks(0), due.length);
    }

    /** "each SPAN begins behind the to of the one ahead" - the to, not the last MARK; "NO: it begins too early" */
    private static void behindTheToOfTheOneAhead() {
        SlideRules x = Edges.withScales(1);
        x.span(0, 100, 205, 10);
        Edges.leaves(x, "at the from of the one ahead", NO, y -> y.span(0, 100, 300, 1));
        Edges.leaves(x, "behind its last MARK, ahead of its to", NO, y -> y.span(0, 201, 300, 1));
        Edges.leaves(x, "at its to", NO, y -> y.span(0, 205, 300, 1));
        Check.due("behind its to", x.span(0, 206, 206, 1), 1);
        Edges.leaves(x, "behind the first, not behind the second", NO, y -> y.span(0, 206, 207, 1));
        Check.due("behind the second", x.span(0, 207, 100000, 10000), 10);
        Edges.leaves(x, "there is nothing behind the last number", NO, y -> y.span(0, 100000, 100000, 1));
    }

    /** "Refused, changing nothing": neither a SPAN that is FULL nor one too early moves the end. */
    private static void whatIsRefusedLeavesTheEnd() {
        SlideRules x = Edges.withScales(1);
        x.span(0, 100, 200, 100);
        Edges.leaves(x, "too many MARKS", FULL, y -> y.span(0, 500, 5000, 1));
        Edges.leaves(x, "too early", NO, y -> y.span(0, 150, 9000, 1000));
        Check.due("ahead of where those ended", x.span(0, 201, 201, 1), 1);
    }

    /** "MARKS of a SCALE: SPANS, 4 at most ..": of each SCALE. */
    private static void eachScaleHasSpansOfItsOwn() {
        SlideRules x = Edges.withScales(2);
        Check.due("400 of one", x.span(0, 100, 499, 1), 400);
        Check.due("400 of the other", x.span(1, 100, 499, 1), 400);
        Edges.leaves(x, "none more of one", FULL, y -> y.span(0, 500, 500, 1));
        Check.due("a third SCALE", x.scale(true, 1, 10, true), 2);
        Check.due("none of it", x.marks(2), 0);
        Check.due("its own", x.span(2, 100, 100, 1), 1);
    }

    /** "FULL: 4 SPANS": the fifth is refused, though one MARK would find room. */
    private static void fourSpans() {
        SlideRules x = Edges.withScales(1);
        for (int i = 1; i <= 4; i++) {
            Check.due("SPAN " + i, x.span(0, 100 * i, 100 * i, 1), 1);
        }
        Edges.leaves(x, "a fifth SPAN", FULL, y -> y.span(0, 500, 500, 1));
        Edges.leaves(x, "a fifth SPAN of 400", FULL, y -> y.span(0, 500, 899, 1));
        Check.due("four MARKS", x.marks(0), 4);
    }

    /** "400 MARKS at most in all of one" */
    private static void fourHundredMarks() {
        SlideRules x = Edges.withScales(3);
        Edges.leaves(x, "401 at once", FULL, y -> y.span(0, 100, 500, 1));
        Edges.leaves(x, "99901 at once", FULL, y -> y.span(0, 100, 100000, 1));
        Check.due("400 at once", x.span(0, 100, 499, 1), 400);
        Edges.leaves(x, "one behind 400", FULL, y -> y.span(0, 500, 500, 1));
        Check.due("399", x.span(1, 100, 498, 1), 399);
        Edges.leaves(x, "two behind 399", FULL, y -> y.span(1, 500, 501, 1));
        Check.due("one behind 399", x.span(1, 500, 509, 10), 1);
        Check.due("that is 400", x.marks(1), 400);
        for (int i = 0; i < 4; i++) {
            Check.due("a hundred", x.span(2, 1000 * (i + 1), 1000 * (i + 1) + 99, 1), 100);
        }
        Check.due("four hundreds", x.marks(2), 400);
        Check.due("the last of them", x.mark(2, 399), 4099);
    }

    /** "the first of: BAD .. NO .. FULL" */
    private static void firstOfBadNoFull() {
        SlideRules x = Edges.withScales(1);
        for (int i = 1; i <= 4; i++) {
            x.span(0, 100 * i, 100 * i, 1);
        }
        Edges.leaves(x, "bad, too early, full", BAD, y -> y.span(0, 400, 1000, 0));
        Edges.leaves(x, "bad, full", BAD, y -> y.span(0, 500, 1000, 0));
        Edges.leaves(x, "too early, full", NO, y -> y.span(0, 400, 1000, 1));
        Edges.leaves(x, "full", FULL, y -> y.span(0, 401, 1000, 1));
        SlideRules z = Edges.withScales(1);
        z.span(0, 100, 499, 1);
        Edges.leaves(z, "bad, too early, 401", BAD, y -> y.span(0, 499, 499, 10001));
        Edges.leaves(z, "too early, 401", NO, y -> y.span(0, 499, 499, 1));
        Edges.leaves(z, "401", FULL, y -> y.span(0, 500, 500, 1));
    }

    /** "The i-th MARK's number. NONE: not so many. BAD." */
    private static void marksToTheirEnds() {
        SlideRules x = Edges.withScales(2);
        Edges.leaves(x, "the first of none", NONE, y -> y.mark(0, 0));
        x.span(0, 100, 499, 1);
        Check.due("the first of 400", x.mark(0, 0), 100);
        Check.due("the last of 400", x.mark(0, 399), 499);
        Edges.leaves(x, "the 400th", NONE, y -> y.mark(0, 400));
        Edges.leaves(x, "the max-th", NONE, y -> y.mark(0, Edges.MAX));
        Edges.leaves(x, "the -1st", BAD, y -> y.mark(0, -1));
        Edges.leaves(x, "the min-th", BAD, y -> y.mark(0, Edges.MIN));
        Edges.leaves(x, "the -1st of none", BAD, y -> y.mark(1, -1));
        for (int scale : new int[] {Edges.MIN, -1, 2, 8, Edges.MAX}) {
            Edges.leaves(x, "a MARK of SCALE " + scale, BAD, y -> y.mark(scale, 0));
        }
    }

    /** "How many MARKS. BAD." */
    private static void noSoManyMarks() {
        SlideRules x = Edges.withScales(1);
        Check.due("none", x.marks(0), 0);
        x.span(0, 100, 100, 1);
        Check.due("one", x.marks(0), 1);
        for (int scale : new int[] {Edges.MIN, -1, 1, 8, Edges.MAX}) {
            Edges.leaves(x, "MARKS of SCALE " + scale, BAD, y -> y.marks(scale));
        }
    }

    /** "NONE: fewer than two." */
    private static void closestOfFewerThanTwo() {
        SlideRules none = Edges.withMarks(false);
        SlideRules one = Edges.withMarks(false, 500);
        SlideRules two = Edges.withMarks(false, 500, 501);
        for (int i = 0; i < 2; i++) {
            int what = i;
            Edges.leaves(none, "closest of none, " + what, NONE, y -> y.closest(0, what));
            Edges.leaves(one, "closest of one, " + what, NONE, y -> y.closest(0, what));
        }
        Edges.leaves(two, "closest of two", 500, y -> y.closest(0, 0));
        Edges.leaves(two, "how near", 8, y -> y.closest(0, 1));
    }

    /** "the first of them (what = 0), how near (1) .. BAD": what is refused ahead of NONE. */
    private static void closestBadGoesFirst() {
        SlideRules none = Edges.withMarks(false);
        SlideRules two = Edges.withMarks(false, 500, 501);
        for (int what : new int[] {Edges.MIN, -1, 2, Edges.MAX}) {
            Edges.leaves(none, "closest of none, " + what, BAD, y -> y.closest(0, what));
            Edges.leaves(two, "closest of two, " + what, BAD, y -> y.closest(0, what));
        }
        for (int scale : new int[] {Edges.MIN, -1, 1, 8, Edges.MAX}) {
            Edges.leaves(two, "closest of SCALE " + scale, BAD, y -> y.closest(scale, 0));
        }
    }

    /** "the first of them": of like ones, and of those at one PLACE. */
    private static void closestOfLikeOnes() {
        SlideRules x = Edges.withMarks(false, 100, 200, 400, 800);
        Check.due("3010, 3011, 3010: the first of like ones", x.closest(0, 0), 100);
        Check.due("how near", x.closest(0, 1), 3010);
        SlideRules z = Edges.withMarks(false, 200, 990, 991, 992);
        z.rule(100);
        Check.due("30, 100, 100, 100: the first at one PLACE", z.closest(0, 0), 990);
        Check.due("0 apart", z.closest(0, 1), 0);
    }

    /** "next to each other (by numbers)": the first two, the last two, the last of a SPAN and the next one's first. */
    private static void closestAtTheEnds() {
        SlideRules first = Edges.withMarks(false, 100, 101, 200);
        Check.due("the first two", first.closest(0, 0), 100);
        Check.due("the first two, how near", first.closest(0, 1), 43);
        SlideRules last = Edges.withMarks(false, 100, 200, 201);
        Check.due("the last two", last.closest(0, 0), 200);
        Check.due("the last two, how near", last.closest(0, 1), 22);
        SlideRules x = Edges.withScales(1);
        x.span(0, 100, 300, 100);
        x.span(0, 301, 901, 300);
        Check.due("between SPANS", x.closest(0, 0), 300);
        Check.due("between SPANS, how near", x.closest(0, 1), 15);
        SlideRules full = Edges.withScales(1);
        full.span(0, 100, 498, 1);
        full.span(0, 100000, 100000, 1);
        Check.due("of 400", full.closest(0, 1), 8);
    }

    /** PLACES are by the LONG of now. */
    private static void closestByTheRuleOfNow() {
        SlideRules x = Edges.withMarks(false, 100, 101, 500, 504);
        Check.due("504 is nearer", x.closest(0, 0), 500);
        Check.due("34 steps", x.closest(0, 1), 34);
        x.rule(100);
        Check.due("0, 0, 70, 70: the first", x.closest(0, 0), 100);
        Check.due("0 steps", x.closest(0, 1), 0);
        x.rule(50000);
        Check.due("504 again", x.closest(0, 0), 500);
        Check.due("173 steps", x.closest(0, 1), 173);
        x.rule(10000);
        Check.due("34 steps again", x.closest(0, 1), 34);
    }

    /** How near is a size: TURNED, where PLACES fall, it is the same. */
    private static void closestTurned() {
        SlideRules x = Edges.withMarks(true, 100, 200, 201);
        Check.due("the last two", x.closest(0, 0), 200);
        Check.due("how near", x.closest(0, 1), 22);
    }
}
