/** The edges that the document names for the SLIDE and what is read on it (promises 9 to 13), each sentence by itself. */
public final class EdgeSlideTest {
    private static final int NONE = Edges.NONE, BAD = Edges.BAD, FAR = Edges.FAR;

    public static void main(String[] args) {
        offAtFirst();
        offToItsEnds();
        setNumbersToTheirEnds();
        setOnlySlideAgainstBody();
        setAnswersOff();
        setFarthest();
        againstNumbersToTheirEnds();
        againstAnyTwo();
        againstWithOffAtItsEnds();
        nearestOfNone();
        nearestPlacesToTheirEnds();
        nearestOfLikeOnes();
        nearestAtTheEnds();
        nearestByPlaceAlone();
        betweenOfNone();
        betweenPlacesToTheirEnds();
        betweenEndsToo();
        betweenUnlikeOnes();
        betweenCutDown();
        betweenTurned();
        betweenByTheRuleOfNow();
        Check.end();
    }

    /** Plain ones on the BODY (0) and the SLIDE (1), a TURNED one on the SLIDE (2), halves on the BODY (3). */
    private static SlideRules fourScales() {
        SlideRules x = Edges.withScales(2);
        x.scale(true, 1, 10, true);
        x.scale(false, 2, 10, false);
        return x;
    }

    /** "OFF (a whole number, 0 at first)" */
    private static void offAtFirst() {
        SlideRules x = new SlideRules();
        Check.due("OFF at first", x.count(2), 0);
        Check.due("OFF: what it was at first", x.off(0), 0);
        Check.due("with OFF 0 the SLIDE stands as the BODY", fourScales().against(1, 200, 0), 3010);
    }

    /** "OFF is told: what it was. BAD: FAR: -200000 .. 200000." */
    private static void offToItsEnds() {
        SlideRules x = new SlideRules();
        for (int v : new int[] {Edges.MIN, -200001, 200001, Edges.MAX, FAR}) {
            Edges.leaves(x, "off(" + v + ") at first", FAR, y -> y.off(v));
        }
        Check.due("off(-200000)", x.off(-200000), 0);
        Edges.leaves(x, "off(-200001)", FAR, y -> y.off(-200001));
        Check.due("off(200000)", x.off(200000), -200000);
        Edges.leaves(x, "off(200001)", FAR, y -> y.off(200001));
        Check.due("off(-1)", x.off(-1), 200000);
        Check.due("what off(-1) was is no refusal", x.off(0), -1);
    }

    /** "v: 100 .. 100000"; "BAD: FAR" */
    private static void setNumbersToTheirEnds() {
        SlideRules x = fourScales();
        x.off(5);
        for (int v : new int[] {Edges.MIN, 0, 99, 100001, Edges.MAX}) {
            Edges.leaves(x, "u " + v, FAR, y -> y.set(1, v, 0, 200));
            Edges.leaves(x, "w " + v, FAR, y -> y.set(1, 200, 0, v));
        }
        Check.due("1 against 1000", x.set(1, 100, 0, 100000), 30000);
        Check.due("1000 against 1", x.set(1, 100000, 0, 100), -30000);
    }

    /** "FAR: also not a SLIDE's, a BODY's SCALE." */
    private static void setOnlySlideAgainstBody() {
        SlideRules x = fourScales();
        x.off(5);
        Edges.leaves(x, "a BODY's as the first", FAR, y -> y.set(3, 200, 0, 200));
        Edges.leaves(x, "a SLIDE's as the second", FAR, y -> y.set(1, 200, 2, 200));
        Edges.leaves(x, "both wrong", FAR, y -> y.set(0, 200, 1, 200));
        Edges.leaves(x, "a SLIDE's against itself", FAR, y -> y.set(1, 200, 1, 200));
        Edges.leaves(x, "a BODY's against itself", FAR, y -> y.set(0, 200, 0, 200));
        for (int scale : new int[] {Edges.MIN, -1, 4, 8, Edges.MAX}) {
            Edges.leaves(x, "the first " + scale, FAR, y -> y.set(scale, 200, 0, 200));
            Edges.leaves(x, "the second " + scale, FAR, y -> y.set(1, 200, scale, 200));
        }
        Check.due("a SLIDE's against a BODY's", x.set(2, 200, 3, 200), 1505 - 6990);
    }

    /** "OFF becomes the second's PLACE less the first's" - whatever OFF was. */
    private static void setAnswersOff() {
        SlideRules x = fourScales();
        x.off(-200000);
        Check.due("2 against 3", x.set(1, 200, 0, 300), 1761);
        Check.due("OFF", x.count(2), 1761);
        Check.due("2 against 3 again", x.set(1, 200, 0, 300), 1761);
        Check.due("the two stand together", x.against(1, 200, 0), x.place(0, 300));
        Check.due("2 against 2", x.set(1, 200, 0, 200), 0);
        Check.due("OFF that was", x.off(3), 0);
    }

    /** SET is not bound by what off takes. */
    private static void setFarthest() {
        SlideRules x = new SlideRules();
        x.scale(false, 1, 10, false);
        x.scale(true, 1, 990, false);
        x.scale(true, 1, 10, true);
        x.scale(false, 1, 990, false);
        x.scale(true, 1, 990, true);
        x.rule(50000);
        Check.due("249782", x.set(1, 100, 0, 100000), 150000 + 99782);
        Check.due("OFF 249782", x.count(2), 249782);
        Check.due("250000", x.set(2, 100000, 0, 100000), 150000 + 100000);
        Check.due("-249564", x.set(4, 100, 3, 100), -99782 - 149782);
        Check.due("OFF: what it was", x.off(0), -249564);
    }

    /** "BAD: FAR." */
    private static void againstNumbersToTheirEnds() {
        SlideRules x = fourScales();
        for (int v : new int[] {Edges.MIN, 0, 99, 100001, Edges.MAX}) {
            Edges.leaves(x, "against of " + v, FAR, y -> y.against(0, v, 1));
        }
        for (int scale : new int[] {Edges.MIN, -1, 4, 8, Edges.MAX}) {
            Edges.leaves(x, "of SCALE " + scale, FAR, y -> y.against(scale, 200, 0));
            Edges.leaves(x, "on SCALE " + scale, FAR, y -> y.against(0, 200, scale));
        }
        Edges.leaves(x, "of 100", 0, y -> y.against(0, 100, 1));
        Edges.leaves(x, "of 100000", 30000, y -> y.against(0, 100000, 1));
    }

    /** "on another SCALE (any two)": "OFF, if its SCALE is on the SLIDE; less OFF, if the other one is" */
    private static void againstAnyTwo() {
        SlideRules x = fourScales();
        x.off(70);
        Edges.leaves(x, "SLIDE on BODY", 3010 + 70, y -> y.against(1, 200, 0));
        Edges.leaves(x, "BODY on SLIDE", 3010 - 70, y -> y.against(0, 200, 1));
        Edges.leaves(x, "SLIDE on SLIDE", 3010, y -> y.against(1, 200, 2));
        Edges.leaves(x, "SLIDE turned on SLIDE", 6990, y -> y.against(2, 200, 1));
        Edges.leaves(x, "BODY on BODY", 3010, y -> y.against(0, 200, 3));
        Edges.leaves(x, "halves of the BODY on BODY", 1505, y -> y.against(3, 200, 0));
        Edges.leaves(x, "BODY on itself", 3010, y -> y.against(0, 200, 0));
        Edges.leaves(x, "SLIDE on itself", 3010, y -> y.against(1, 200, 1));
    }

    private static void againstWithOffAtItsEnds() {
        SlideRules x = fourScales();
        x.rule(50000);
        x.off(200000);
        Check.due("the farthest up", x.against(1, 100000, 0), 350000);
        Check.due("the farthest down", x.against(0, 100, 1), -200000);
        x.off(-200000);
        Check.due("up again", x.against(0, 100000, 1), 350000);
        Check.due("down again", x.against(2, 100000, 0), -300000);
    }

    /** "NONE: no MARKS." - behind BAD */
    private static void nearestOfNone() {
        SlideRules x = fourScales();
        Edges.leaves(x, "no MARKS", NONE, y -> y.nearest(0, 0));
        Edges.leaves(x, "no MARKS, place -1000000", NONE, y -> y.nearest(0, -1000000));
        Edges.leaves(x, "no MARKS, place 1000001", BAD, y -> y.nearest(0, 1000001));
        x.span(1, 200, 200, 1);
        Edges.leaves(x, "MARKS of another SCALE", NONE, y -> y.nearest(0, 0));
        Edges.leaves(x, "one MARK", 200, y -> y.nearest(1, 0));
    }

    /** "BAD: place -1000000 .. 1000000." */
    private static void nearestPlacesToTheirEnds() {
        SlideRules x = Edges.withMarks(false, 200, 300);
        for (int place : new int[] {Edges.MIN, -1000001, 1000001, Edges.MAX, FAR}) {
            Edges.leaves(x, "nearest to " + place, BAD, y -> y.nearest(0, place));
        }
        Edges.leaves(x, "nearest to -1000000", 200, y -> y.nearest(0, -1000000));
        Edges.leaves(x, "nearest to 1000000", 300, y -> y.nearest(0, 1000000));
        for (int scale : new int[] {Edges.MIN, -1, 1, 8, Edges.MAX}) {
            Edges.leaves(x, "nearest on SCALE " + scale, BAD, y -> y.nearest(scale, 0));
        }
    }

    /** "of like ones the least number": midway, at one PLACE, and TURNED, where the least number stands last. */
    private static void nearestOfLikeOnes() {
        SlideRules x = Edges.withMarks(false, 100, 200, 400);
        Check.due("midway of 0 and 3010", x.nearest(0, 1505), 100);
        Check.due("a step ahead", x.nearest(0, 1504), 100);
        Check.due("a step behind", x.nearest(0, 1506), 200);
        Check.due("ahead of midway of 3010 and 6021", x.nearest(0, 4515), 200);
        Check.due("behind it", x.nearest(0, 4516), 400);
        SlideRules turned = Edges.withMarks(true, 100, 200, 400);
        Check.due("midway of 10000 and 6990", turned.nearest(0, 8495), 100);
        Check.due("a step below", turned.nearest(0, 8494), 200);
        SlideRules one = Edges.withMarks(false, 989, 990, 991, 992);
        one.rule(100);
        Check.due("all at 100", one.nearest(0, 100), 989);
        Check.due("all 900 behind", one.nearest(0, 1000), 989);
        Check.due("all 100 ahead", one.nearest(0, 0), 989);
    }

    /** The first, the last, and one of two neighbours at their very PLACES. */
    private static void nearestAtTheEnds() {
        SlideRules x = Edges.withScales(1);
        x.span(0, 100, 499, 1);
        Check.due("the first of 400", x.nearest(0, 0), 100);
        Check.due("ahead of the first", x.nearest(0, -1), 100);
        Check.due("the last of 400", x.nearest(0, 6981), 499);
        Check.due("behind the last", x.nearest(0, 6982), 499);
        Check.due("at the second", x.nearest(0, 43), 101);
        Check.due("at the 399th", x.nearest(0, 6972), 498);
    }

    /** "the MARK of a SCALE the PLACE of which is nearest": OFF is not asked. */
    private static void nearestByPlaceAlone() {
        SlideRules x = Edges.withMarks(false, 100, 200);
        x.off(200000);
        Check.due("nearest, OFF 200000", x.nearest(0, 3010), 200);
        Check.due("between, OFF 200000", x.between(0, 3010), 200);
        x.rule(100);
        Check.due("nearest on a shorter RULE", x.nearest(0, 15), 100);
        Check.due("nearest on a shorter RULE, behind", x.nearest(0, 16), 200);
        x.span(0, 300, 300, 1);
        Check.due("a MARK that came since", x.nearest(0, 48), 300);
    }

    /** "NONE: none." - no MARKS, one, or none that hold the place */
    private static void betweenOfNone() {
        SlideRules none = Edges.withMarks(false);
        SlideRules one = Edges.withMarks(false, 200);
        SlideRules two = Edges.withMarks(false, 200, 300);
        Edges.leaves(none, "no MARKS", NONE, y -> y.between(0, 0));
        Edges.leaves(one, "one MARK, at its PLACE", NONE, y -> y.between(0, 3010));
        Edges.leaves(two, "ahead of two", NONE, y -> y.between(0, 3009));
        Edges.leaves(two, "behind two", NONE, y -> y.between(0, 4772));
        Edges.leaves(two, "between two", 200, y -> y.between(0, 3010));
        SlideRules like = Edges.withMarks(false, 990, 991, 992);
        like.rule(100);
        Edges.leaves(like, "all at 100", NONE, y -> y.between(0, 100));
    }

    /** The places are those of NEAREST, -1000000 .. 1000000. */
    private static void betweenPlacesToTheirEnds() {
        SlideRules x = Edges.withMarks(false, 200, 300);
        for (int place : new int[] {Edges.MIN, -1000001, 1000001, Edges.MAX, FAR}) {
            Edges.leaves(x, "between at " + place, BAD, y -> y.between(0, place));
        }
        Edges.leaves(x, "between at -1000000", NONE, y -> y.between(0, -1000000));
        Edges.leaves(x, "between at 1000000", NONE, y -> y.between(0, 1000000));
        for (int scale : new int[] {Edges.MIN, -1, 1, 8, Edges.MAX}) {
            Edges.leaves(x, "between on SCALE " + scale, BAD, y -> y.between(scale, 3010));
        }
    }

    /** "hold the place between them (ends too)"; "the first two": at a shared end, the earlier two */
    private static void betweenEndsToo() {
        SlideRules x = Edges.withMarks(false, 200, 300, 400);
        Check.due("at the first", x.between(0, 3010), 200);
        Check.due("a step ahead of the second", x.between(0, 4770), 299);
        Check.due("at the second", x.between(0, 4771), 300);
        Check.due("a step behind the second", x.between(0, 4772), 300);
        Check.due("at the last", x.between(0, 6021), 400);
        SlideRules full = Edges.withScales(1);
        full.span(0, 100, 498, 1);
        full.span(0, 100000, 100000, 1);
        Check.due("at the last of 400", full.between(0, 30000), 100000);
        Check.due("at the last but one", full.between(0, 6972), 498);
    }

    /** "whose PLACES p1, p2 are unlike" */
    private static void betweenUnlikeOnes() {
        SlideRules x = Edges.withMarks(false, 100, 101, 102, 103);
        x.rule(100);
        Check.due("0, 0, 1, 1: at 0", x.between(0, 0), 101);
        Check.due("0, 0, 1, 1: at 1", x.between(0, 1), 102);
        Check.due("0, 0, 1, 1: at 2", x.between(0, 2), NONE);
        SlideRules z = Edges.withMarks(false, 200, 990, 991);
        z.rule(100);
        Check.due("30, 100, 100: at 100", z.between(0, 100), 990);
    }

    /** "v1 and (v2 less v1) times (p less p1) by (p2 less p1), cut down" */
    private static void betweenCutDown() {
        SlideRules x = Edges.withMarks(false, 100, 200);
        Check.due("100 30 / 3010", x.between(0, 30), 100);
        Check.due("100 31 / 3010", x.between(0, 31), 101);
        Check.due("100 1505 / 3010", x.between(0, 1505), 150);
        Check.due("100 3009 / 3010", x.between(0, 3009), 199);
        SlideRules z = Edges.withMarks(false, 100, 100000);
        z.rule(50000);
        Check.due("99900 1 / 150000", z.between(0, 1), 100);
        Check.due("99900 2 / 150000", z.between(0, 2), 101);
        Check.due("99900 149999 / 150000", z.between(0, 149999), 99999);
        Check.due("99900 75000 / 150000", z.between(0, 75000), 50050);
    }

    /** TURNED, PLACES fall: both differences are below 0, and what is cut down goes towards v1. */
    private static void betweenTurned() {
        SlideRules x = Edges.withMarks(true, 100, 200, 400);
        Check.due("at the first", x.between(0, 10000), 100);
        Check.due("above the first", x.between(0, 10001), NONE);
        Check.due("100 30 / 3010", x.between(0, 9970), 100);
        Check.due("100 31 / 3010", x.between(0, 9969), 101);
        Check.due("at the second", x.between(0, 6990), 200);
        Check.due("200 1 / 3011", x.between(0, 6989), 200);
        Check.due("at the last", x.between(0, 3979), 400);
        Check.due("below the last", x.between(0, 3978), NONE);
        SlideRules z = Edges.withMarks(true, 100, 100000);
        z.rule(50000);
        Check.due("at the last, below 0", z.between(0, -100000), 100000);
        Check.due("99900 149999 / 150000", z.between(0, -99999), 99999);
    }

    private static void betweenByTheRuleOfNow() {
        SlideRules x = Edges.withMarks(false, 100, 200);
        Check.due("at 30 of 3010", x.between(0, 30), 100);
        x.rule(100);
        Check.due("at 30 of 30", x.between(0, 30), 200);
        Check.due("at 31 of 30", x.between(0, 31), NONE);
        x.rule(10000);
        Check.due("at 31 of 3010", x.between(0, 31), 101);
    }
}
