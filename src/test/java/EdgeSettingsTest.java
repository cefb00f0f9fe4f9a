/** The edges that the document names for SETTINGS (promises 18 and 19), each sentence by itself. */
public final class EdgeSettingsTest {
    private static final int NONE = Edges.NONE, BAD = Edges.BAD;

    public static void main(String[] args) {
        powersToTheirEnds();
        fromAllPowersZero();
        noneWithoutASlide();
        scalesOfTheBodyAreNotAsked();
        turnedAlonePartOnly();
        turnedBesideStraight();
        partsThatThereAre();
        noneIfItCanNotBe();
        settingToItsEnds();
        badGoesBeforeNone();
        beyondThePowersTold();
        firstRowOfLikeOnes();
        askedOverAgain();
        Check.end();
    }

    /** A slide with one SCALE for each q told: q TURNED, if it is told below 0. */
    private static SlideRules withParts(int... parts) {
        SlideRules x = new SlideRules();
        for (int q : parts) {
            x.scale(true, Math.abs(q), 10, q < 0);
        }
        return x;
    }

    private static void rowDue(String of, SlideRules x, int e0, int e1, int e2, int... row) {
        Edges.leaves(x, of + ": how many", row.length, y -> y.fewest(e0, e1, e2));
        for (int k = 0; k < row.length; k++) {
            int i = k;
            Edges.leaves(x, of + ": setting " + i, row[i], y -> y.setting(e0, e1, e2, i));
        }
        Edges.leaves(x, of + ": behind the last", NONE, y -> y.setting(e0, e1, e2, row.length));
    }

    private static void noneDue(String of, SlideRules x, int e0, int e1, int e2) {
        Edges.leaves(x, of + ": fewest", NONE, y -> y.fewest(e0, e1, e2));
        Edges.leaves(x, of + ": setting", NONE, y -> y.setting(e0, e1, e2, 0));
    }

    /** "powers e (-8 .. 8) of three numbers"; "BAD." */
    private static void powersToTheirEnds() {
        SlideRules x = withParts(1, 2, 3);
        for (int e : new int[] {Edges.MIN, -9, 9, Edges.MAX}) {
            Edges.leaves(x, "e0 " + e, BAD, y -> y.fewest(e, 0, 0));
            Edges.leaves(x, "e1 " + e, BAD, y -> y.fewest(0, e, 0));
            Edges.leaves(x, "e2 " + e, BAD, y -> y.fewest(0, 0, e));
            Edges.leaves(x, "setting e0 " + e, BAD, y -> y.setting(e, 0, 0, 0));
            Edges.leaves(x, "setting e1 " + e, BAD, y -> y.setting(0, e, 0, 0));
            Edges.leaves(x, "setting e2 " + e, BAD, y -> y.setting(0, 0, e, 0));
        }
        rowDue("8 of the first", x, 8, 0, 0, 2, 3, 3);
        rowDue("-8 of the first", x, -8, 0, 0, 102, 103, 103);
        rowDue("8 of the second", x, 0, 8, 0, 12, 13, 13);
        rowDue("-8 of the third", x, 0, 0, -8, 122, 123, 123);
        rowDue("8 of all", x, 8, 8, 8, 2, 3, 3, 12, 13, 13, 22, 23, 23);
        rowDue("-8 of all", x, -8, -8, -8, 102, 103, 103, 112, 113, 113, 122, 123, 123);
        SlideRules one = withParts(1);
        Check.due("8 of all by ones", one.fewest(8, 8, 8), 24);
        Check.due("the last of 24", one.setting(8, 8, 8, 23), 21);
        Check.due("behind the last of 24", one.setting(8, 8, 8, 24), NONE);
    }

    /** "FEWEST from all powers 0 to the goal": to all powers 0, none is needed, with a SLIDE or without. */
    private static void fromAllPowersZero() {
        rowDue("no SCALE", new SlideRules(), 0, 0, 0);
        rowDue("a SLIDE", withParts(1, 2, 3), 0, 0, 0);
        rowDue("a TURNED one", withParts(-2), 0, 0, 0);
    }

    private static void noneWithoutASlide() {
        noneDue("no SCALE, 1", new SlideRules(), 1, 0, 0);
        noneDue("no SCALE, -1 of the third", new SlideRules(), 0, 0, -1);
        noneDue("no SCALE, 8 of all", new SlideRules(), 8, 8, 8);
    }

    /** "any of PARTS of SCALES that there are on the SLIDE" */
    private static void scalesOfTheBodyAreNotAsked() {
        SlideRules x = new SlideRules();
        x.scale(false, 1, 10, false);
        noneDue("a SCALE of the BODY", x, 1, 0, 0);
        x.scale(true, 2, 10, false);
        noneDue("halves on the SLIDE, ones on the BODY", x, 1, 0, 0);
        rowDue("halves on the SLIDE", x, 2, 0, 0, 2);
        x.scale(false, 3, 10, true);
        noneDue("thirds on the BODY", x, 0, 3, 0);
        x.scale(true, 1, 10, true);
        rowDue("ones turned on the SLIDE", x, 1, 0, 0, 2, 101);
    }

    /** "TURNED ones alone: parts alone" */
    private static void turnedAlonePartOnly() {
        for (int q = 1; q <= 3; q++) {
            SlideRules x = withParts(-q);
            noneDue("q " + q + " up", x, q, 0, 0);
            noneDue("q " + q + " up, of the third", x, 0, 0, q);
            rowDue("q " + q + " down", x, -q, 0, 0, 100 + q);
            rowDue("q " + q + " down, of two", x, 0, -q, -2 * q, 110 + q, 120 + q, 120 + q);
        }
    }

    /** "not TURNED: multiplies or parts; TURNED ones alone: parts alone": one of each does both. */
    private static void turnedBesideStraight() {
        SlideRules x = withParts(-2);
        noneDue("turned", x, 2, 0, 0);
        x.scale(true, 2, 990, false);
        rowDue("turned and not", x, 2, 0, 0, 2);
        rowDue("turned and not, down", x, -2, 0, 0, 102);
        SlideRules z = withParts(2, -2);
        rowDue("not and turned", z, 2, -4, 0, 2, 112, 112);
    }

    /** "s any of PARTS": each alone, two of them, all */
    private static void partsThatThereAre() {
        noneDue("3 by halves", withParts(2), 3, 0, 0);
        noneDue("8 by thirds", withParts(3), 8, 0, 0);
        rowDue("6 by thirds", withParts(3), 6, 0, 0, 3, 3);
        rowDue("8 by halves", withParts(2), 0, 8, 0, 12, 12, 12, 12);
        rowDue("1 by halves and thirds", withParts(2, 3), 1, 0, 0, 3, 102);
        rowDue("-1 by halves and thirds", withParts(2, 3), -1, 0, 0, 2, 103);
        rowDue("1 by ones and thirds", withParts(1, 3), 0, 1, 0, 11);
        rowDue("2 by ones and thirds: two ways, the first", withParts(1, 3), 0, 2, 0, 11, 11);
        rowDue("-2 by ones and thirds", withParts(1, 3), 0, -2, 0, 11, 113);
    }

    /** "None, if it can not be.": where one number of the three can not. */
    private static void noneIfItCanNotBe() {
        SlideRules x = withParts(2);
        noneDue("the first can not", x, 1, 2, 2);
        noneDue("the second can not", x, 2, 1, 2);
        noneDue("the third can not", x, 2, 2, 1);
        rowDue("all can", x, 2, 2, 2, 2, 12, 22);
    }

    /** "The i-th of the first row. NONE: not so many, none. BAD: i below 0, too." */
    private static void settingToItsEnds() {
        SlideRules x = withParts(1);
        for (int i : new int[] {Edges.MIN, -2, -1}) {
            Edges.leaves(x, "setting " + i, BAD, y -> y.setting(1, 0, 0, i));
            Edges.leaves(x, "setting " + i + " of no settings", BAD, y -> y.setting(0, 0, 0, i));
        }
        Edges.leaves(x, "setting 0", 1, y -> y.setting(1, 0, 0, 0));
        Edges.leaves(x, "setting 0 of no settings", NONE, y -> y.setting(0, 0, 0, 0));
        Edges.leaves(x, "setting 1", NONE, y -> y.setting(1, 0, 0, 1));
        Edges.leaves(x, "setting max", NONE, y -> y.setting(1, 0, 0, Edges.MAX));
    }

    private static void badGoesBeforeNone() {
        SlideRules x = new SlideRules();
        Edges.leaves(x, "9, and none", BAD, y -> y.fewest(9, 1, 1));
        Edges.leaves(x, "setting of 9, and none", BAD, y -> y.setting(1, 9, 1, 0));
        Edges.leaves(x, "setting -1, and none", BAD, y -> y.setting(1, 1, 1, -1));
    }

    /** Powers -8 .. 8 are told; on the way they may be more, where no row is shorter or comes first otherwise. */
    private static void beyondThePowersTold() {
        rowDue("9 on the way", withParts(3, -1), 8, 0, 0, 3, 3, 3, 101);
        rowDue("12 on the way", withParts(3, -2), 8, 0, 0, 3, 3, 3, 3, 102, 102);
        rowDue("-9 on the way", withParts(1, -3), -8, 0, 0, 1, 103, 103, 103);
        rowDue("10 on the way", withParts(2, -3), 7, 0, 0, 2, 2, 2, 2, 2, 103);
    }

    /** "the first row of them": of rows as short, by their settings as told. */
    private static void firstRowOfLikeOnes() {
        SlideRules x = withParts(1, 2, 3);
        rowDue("4: 1 and 3, not 2 and 2", x, 4, 0, 0, 1, 3);
        rowDue("5: 2 and 3", x, 5, 0, 0, 2, 3);
        rowDue("7: 1, 3, 3, not 2, 2, 3", x, 7, 0, 0, 1, 3, 3);
        rowDue("-4: 101 and 103", x, -4, 0, 0, 101, 103);
        rowDue("to multiply comes first, of any number", x, -1, 0, 1, 21, 101);
        rowDue("the first number comes first", x, 1, 1, 1, 1, 11, 21);
    }

    /** Asking keeps nothing: SCALES that came since are asked, and other goals in turn. */
    private static void askedOverAgain() {
        SlideRules x = withParts(1);
        rowDue("8 by ones", x, 2, 0, 0, 1, 1);
        rowDue("another goal", x, 0, -2, 0, 111, 111);
        x.scale(true, 2, 10, false);
        rowDue("by halves too", x, 2, 0, 0, 2);
        rowDue("another goal by halves", x, 0, -2, 0, 112);
        x.rule(100);
        x.off(5);
        rowDue("neither LONG nor OFF is asked", x, 2, 0, 0, 2);
    }
}
