/** The edges that the document names for RULES, SCALES and PLACES (promises 1 to 4), each sentence by itself. */
public final class EdgeScalesTest {
    private static final int BAD = Edges.BAD, FULL = Edges.FULL, FAR = Edges.FAR;

    public static void main(String[] args) {
        newObjectHasNoScales();
        longAtFirst();
        longToItsEnds();
        longChangesNoMoreThanPlaces();
        scalesAsTheyCome();
        eightScales();
        badGoesBeforeFull();
        partsToTheirEnds();
        foldToItsEnds();
        numbersToTheirEnds();
        scalesThatThereAre();
        nearestWholeNumber();
        ofTwoAlikeTheGreater();
        ofTwoAlikeTheGreaterBelowZero();
        partsOfTenfolds();
        foldedToZeroAndBelow();
        turnedIsLongLessThat();
        placesAtTheEndsOfAll();
        Check.end();
    }

    /** "As told; no SCALES." */
    private static void newObjectHasNoScales() {
        SlideRules x = new SlideRules();
        Check.due("new: SCALES", x.count(0), 0);
        Check.due("new: on the SLIDE", x.count(1), 0);
        Edges.leaves(x, "new: place on 0", FAR, y -> y.place(0, 100));
        Edges.leaves(x, "new: marks of 0", BAD, y -> y.marks(0));
    }

    /** "LONG steps (100 .. 50000; 10000 at first)" */
    private static void longAtFirst() {
        SlideRules x = new SlideRules();
        Check.due("LONG at first", x.count(6), 10000);
        Check.due("LONG: what it was at first", x.rule(10000), 10000);
        Check.due("LONG: what it was", x.rule(10000), 10000);
    }

    /** "LONG steps (100 .. 50000 ..)"; "LONG: what it was. BAD." */
    private static void longToItsEnds() {
        SlideRules x = new SlideRules();
        Edges.leaves(x, "rule(99)", BAD, y -> y.rule(99));
        Check.due("rule(100)", x.rule(100), 10000);
        Check.due("LONG 100", x.count(6), 100);
        Edges.leaves(x, "rule(99) behind 100", BAD, y -> y.rule(99));
        Check.due("rule(50000)", x.rule(50000), 100);
        Check.due("LONG 50000", x.count(6), 50000);
        Edges.leaves(x, "rule(50001)", BAD, y -> y.rule(50001));
        Edges.leaves(x, "rule(0)", BAD, y -> y.rule(0));
        Edges.leaves(x, "rule(-100)", BAD, y -> y.rule(-100));
        Edges.leaves(x, "rule(min)", BAD, y -> y.rule(Edges.MIN));
        Edges.leaves(x, "rule(max)", BAD, y -> y.rule(Edges.MAX));
        Check.due("rule(10000)", x.rule(10000), 50000);
    }

    /** LONG is for each tenfold: MARKS, OFF, factors and STRIPS are as they were, PLACES are not. */
    private static void longChangesNoMoreThanPlaces() {
        SlideRules x = Edges.withMarks(false, 200, 300);
        x.off(77);
        x.factor(500);
        x.cut(0, 9);
        x.rule(50000);
        Check.due("MARKS", x.marks(0), 2);
        Check.due("OFF", x.count(2), 77);
        Check.due("factors", x.count(3), 1);
        Check.due("places of a STRIP", x.count(4), 1);
        Check.due("the PLACE", x.place(0, 200), 15051);
        x.rule(10000);
        Check.due("the PLACE again", x.place(0, 200), 3010);
    }

    /** "SCALES 0 .. 7, as they come" */
    private static void scalesAsTheyCome() {
        SlideRules x = new SlideRules();
        for (int i = 0; i < 8; i++) {
            Check.due("SCALES ahead of " + i, x.count(0), i);
            Check.due("SCALE " + i, x.scale(i > 3, 1 + i % 3, 10 + i, i % 2 == 0), i);
        }
        Check.due("on the SLIDE", x.count(1), 4);
    }

    /** "FULL: 8." */
    private static void eightScales() {
        SlideRules x = Edges.withScales(7);
        Check.due("an eighth SCALE", x.scale(true, 3, 990, true), 7);
        Edges.leaves(x, "a ninth SCALE", FULL, y -> y.scale(false, 1, 10, false));
        Edges.leaves(x, "a ninth SCALE on the SLIDE", FULL, y -> y.scale(true, 1, 10, true));
        Check.due("eight SCALES", x.count(0), 8);
        Check.due("the eighth stands", x.place(7, 9900), 10000);
        Edges.leaves(x, "the ninth does not", FAR, y -> y.place(8, 200));
    }

    /** "Refused, changing nothing, the first of: BAD .. FULL" */
    private static void badGoesBeforeFull() {
        SlideRules x = Edges.withScales(8);
        Edges.leaves(x, "a ninth SCALE, q 0", BAD, y -> y.scale(false, 0, 10, false));
        Edges.leaves(x, "a ninth SCALE, q 4", BAD, y -> y.scale(false, 4, 10, false));
        Edges.leaves(x, "a ninth SCALE, FOLD 9", BAD, y -> y.scale(false, 1, 9, false));
        Edges.leaves(x, "a ninth SCALE, FOLD 991", BAD, y -> y.scale(false, 1, 991, false));
    }

    /** "with PARTS q (1 .. 3)" */
    private static void partsToTheirEnds() {
        SlideRules x = new SlideRules();
        for (int q : new int[] {Edges.MIN, -1, 0, 4, Edges.MAX}) {
            Edges.leaves(x, "scale of q " + q, BAD, y -> y.scale(false, q, 10, false));
            Edges.leaves(x, "turned scale of q " + q, BAD, y -> y.scale(true, q, 10, true));
        }
        for (int q = 1; q <= 3; q++) {
            Check.due("scale of q " + q, x.scale(false, q, 10, false), q - 1);
        }
        Check.due("10 by 1", x.place(0, 1000), 10000);
        Check.due("10 by 2", x.place(1, 1000), 5000);
        Check.due("10 by 3", x.place(2, 1000), 3333);
    }

    /** "a FOLD (10 .. 990, in tenths: 1 .. 99)" */
    private static void foldToItsEnds() {
        SlideRules x = new SlideRules();
        for (int fold : new int[] {Edges.MIN, -10, 0, 9, 991, Edges.MAX}) {
            Edges.leaves(x, "scale of FOLD " + fold, BAD, y -> y.scale(false, 1, fold, false));
        }
        Check.due("scale of FOLD 10", x.scale(false, 1, 10, false), 0);
        Check.due("scale of FOLD 990", x.scale(false, 1, 990, false), 1);
        Check.due("FOLD 10 stands at 1", x.place(0, 100), 0);
        Check.due("FOLD 990 stands at 99", x.place(1, 9900), 0);
        Check.due("scale of FOLD 11", x.scale(false, 1, 11, false), 2);
        Check.due("FOLD 11 stands at 1.1", x.place(2, 110), 0);
    }

    /** "Numbers are told in hundredths, v: 100 .. 100000"; "BAD: FAR." */
    private static void numbersToTheirEnds() {
        SlideRules x = Edges.withScales(1);
        for (int v : new int[] {Edges.MIN, -100, 0, 99, 100001, Edges.MAX}) {
            Edges.leaves(x, "place of " + v, FAR, y -> y.place(0, v));
        }
        Check.due("place of 100", x.place(0, 100), 0);
        Check.due("place of 101", x.place(0, 101), 43);
        Check.due("place of 99999", x.place(0, 99999), 30000);
        Check.due("place of 100000", x.place(0, 100000), 30000);
    }

    /** A SCALE that there is not yet is no number as told. */
    private static void scalesThatThereAre() {
        SlideRules x = Edges.withScales(2);
        for (int scale : new int[] {Edges.MIN, -1, 2, 7, 8, Edges.MAX}) {
            Edges.leaves(x, "place on " + scale, FAR, y -> y.place(scale, 200));
        }
        Check.due("place on the last", x.place(1, 200), 3010);
        x.scale(false, 1, 10, false);
        Check.due("place on the next, once it is there", x.place(2, 200), 3010);
    }

    /** "the whole number nearest": below and above a half step, as near to it as any come. */
    private static void nearestWholeNumber() {
        SlideRules x = Edges.withScales(1);
        x.rule(100);
        Check.due("0.43 steps", x.place(0, 101), 0);
        Check.due("0.86 steps", x.place(0, 102), 1);
        Check.due("99.48 steps", x.place(0, 988), 99);
        Check.due("99.52 steps", x.place(0, 989), 100);
        int[][] near = {{30428, 51745, 448, 3}, {15957, 23007, 886, 2}, {34833, 13430, 761, 2}, {17998, 62545, 873, 3}};
        for (int[] row : near) {
            SlideRules z = new SlideRules();
            z.scale(false, row[3], row[2], false);
            z.rule(row[0]);
            int p = z.place(0, row[1]);
            Check.that(row[1] + " is half a step or more above " + p + " less a half",
                    ExactPlace.reaches(row[1], row[0], row[3], row[2], p));
            Check.that(row[1] + " is less than half a step above " + p,
                    !ExactPlace.reaches(row[1], row[0], row[3], row[2], p + 1));
        }
    }

    /** "(of two alike the greater)" */
    private static void ofTwoAlikeTheGreater() {
        SlideRules x = new SlideRules();
        x.scale(false, 2, 10, false);
        x.scale(false, 2, 25, false);
        x.rule(101);
        Check.due("50 and a half", x.place(0, 1000), 51);
        Check.due("101", x.place(0, 10000), 101);
        Check.due("151 and a half", x.place(0, 100000), 152);
        Check.due("50 and a half, folded", x.place(1, 2500), 51);
        x.rule(49999);
        Check.due("24999 and a half", x.place(0, 1000), 25000);
        Check.due("74998 and a half", x.place(0, 100000), 74999);
        x.rule(50000);
        Check.due("25000", x.place(0, 1000), 25000);
    }

    /** "(of two alike the greater)", where both are below 0 */
    private static void ofTwoAlikeTheGreaterBelowZero() {
        SlideRules x = new SlideRules();
        x.scale(false, 2, 100, false);
        x.scale(false, 2, 990, false);
        x.rule(101);
        Check.due("less 50 and a half", x.place(0, 100), -50);
        Check.due("less 50 and a half, folded", x.place(1, 990), -50);
        x.rule(103);
        Check.due("less 51 and a half", x.place(0, 100), -51);
        x.rule(49999);
        Check.due("less 24999 and a half", x.place(0, 100), -24999);
    }

    /** Thirds never stand on a half step: they go to the nearest, below 0 too. */
    private static void partsOfTenfolds() {
        SlideRules x = new SlideRules();
        x.scale(false, 3, 10, false);
        x.scale(false, 3, 100, false);
        int[][] due = {{100, 33, -33}, {101, 34, -34}, {102, 34, -34}, {103, 34, -34}, {104, 35, -35}};
        for (int[] row : due) {
            x.rule(row[0]);
            Check.due("a third of " + row[0], x.place(0, 1000), row[1]);
            Check.due("less a third of " + row[0], x.place(1, 100), row[2]);
            Check.due("three thirds of " + row[0], x.place(0, 100000), row[0]);
        }
    }

    /** "the logarithm (base ten) of its number by its FOLD's" */
    private static void foldedToZeroAndBelow() {
        SlideRules x = new SlideRules();
        x.scale(false, 1, 31, false);
        Check.due("at the FOLD", x.place(0, 310), 0);
        Check.due("ahead of the FOLD", x.place(0, 309), -14);
        Check.due("behind the FOLD", x.place(0, 311), 14);
        Check.due("ten FOLDS", x.place(0, 3100), 10000);
        Check.due("a hundred FOLDS", x.place(0, 31000), 20000);
        Check.due("from 1", x.place(0, 100), -4914);
    }

    /** "TURNED: LONG less that." */
    private static void turnedIsLongLessThat() {
        SlideRules x = new SlideRules();
        x.scale(false, 1, 10, true);
        x.scale(false, 2, 10, true);
        x.scale(false, 2, 100, true);
        Check.due("1 turned stands at LONG", x.place(0, 100), 10000);
        Check.due("10 turned stands at 0", x.place(0, 1000), 0);
        Check.due("100 turned stands below 0", x.place(0, 10000), -10000);
        Check.due("2 turned", x.place(0, 200), 6990);
        x.rule(101);
        Check.due("101 less 51", x.place(1, 1000), 50);
        Check.due("101 less 152", x.place(1, 100000), -51);
        Check.due("101 and 50", x.place(2, 100), 151);
        Check.due("101", x.place(2, 1000), 101);
    }

    /** The farthest PLACES that there are, on the longest RULE. */
    private static void placesAtTheEndsOfAll() {
        SlideRules x = new SlideRules();
        x.scale(false, 1, 10, false);
        x.scale(false, 1, 990, false);
        x.scale(false, 1, 10, true);
        x.scale(false, 1, 990, true);
        x.rule(50000);
        Check.due("the farthest up", x.place(0, 100000), 150000);
        Check.due("the farthest down", x.place(1, 100), -99782);
        Check.due("the farthest down, turned", x.place(2, 100000), -100000);
        Check.due("the farthest up, turned", x.place(3, 100), 149782);
    }
}
