/** The edges that the document names for STRIPS (promises 20 to 23), each sentence by itself. */
public final class EdgeStripsTest {
    private static final int NONE = Edges.NONE, BAD = Edges.BAD, FULL = Edges.FULL, FAR = Edges.FAR;

    public static void main(String[] args) {
        placesToTheirEnds();
        stripsToTheirEnds();
        rising();
        sixtyPlaces();
        badGoesBeforeFull();
        wipeOfNone();
        wipeOneStripAlone();
        chosenOfNone();
        nearToItsEnds();
        nearOrMore();
        chosenLastNotTheOneAhead();
        whatOfChosen();
        chosenAreTheMost();
        matchOfAnEmptyOne();
        whatOfMatch();
        matchFarthest();
        matchOfLikeSizes();
        matchLeastSize();
        matchMostPlaces();
        matchOfSixty();
        matchOverAgain();
        Check.end();
    }

    private static SlideRules withStrips(int[] first, int[] second) {
        SlideRules x = new SlideRules();
        for (int place : first) {
            x.cut(0, place);
        }
        for (int place : second) {
            x.cut(1, place);
        }
        return x;
    }

    private static int[] row(int... places) {
        return places;
    }

    private static int[] sixty(int from, int each) {
        int[] all = new int[60];
        for (int i = 0; i < all.length; i++) {
            all[i] = from + i * each;
        }
        return all;
    }

    private static void matchDue(String of, SlideRules x, int shift, int many) {
        Edges.leaves(x, of + ": the number", shift, y -> y.match(0));
        Edges.leaves(x, of + ": how many", many, y -> y.match(1));
    }

    /** "places told .. (0 .. 1000000)" */
    private static void placesToTheirEnds() {
        SlideRules x = new SlideRules();
        for (int place : new int[] {Edges.MIN, -1, 1000001, Edges.MAX}) {
            Edges.leaves(x, "cut at " + place, BAD, y -> y.cut(0, place));
        }
        Check.due("cut at 0", x.cut(0, 0), 1);
        Check.due("cut at 1000000", x.cut(0, 1000000), 2);
        Edges.leaves(x, "cut at 1000001 behind it", BAD, y -> y.cut(0, 1000001));
        Check.due("the first of the other at 1000000", x.cut(1, 1000000), 1);
    }

    /** "STRIPS 0, 1" */
    private static void stripsToTheirEnds() {
        SlideRules x = withStrips(row(5), row(7));
        for (int strip : new int[] {Edges.MIN, -1, 2, Edges.MAX}) {
            Edges.leaves(x, "cut of STRIP " + strip, BAD, y -> y.cut(strip, 9));
            Edges.leaves(x, "wipe of STRIP " + strip, BAD, y -> y.wipe(strip));
            Edges.leaves(x, "chosen of STRIP " + strip, BAD, y -> y.chosen(strip, 1, NONE));
        }
        Check.due("cut of STRIP 0", x.cut(0, 9), 2);
        Check.due("cut of STRIP 1", x.cut(1, 9), 2);
    }

    /** "rising"; "BAD: no more than the last, too" */
    private static void rising() {
        SlideRules x = withStrips(row(5, 10), row());
        Edges.leaves(x, "at the last", BAD, y -> y.cut(0, 10));
        Edges.leaves(x, "a step ahead of it", BAD, y -> y.cut(0, 9));
        Edges.leaves(x, "at the first", BAD, y -> y.cut(0, 5));
        Edges.leaves(x, "at 0", BAD, y -> y.cut(0, 0));
        Check.due("a step behind the last", x.cut(0, 11), 3);
        Check.due("the other is not asked", x.cut(1, 0), 1);
        Edges.leaves(x, "at 0 again", BAD, y -> y.cut(1, 0));
    }

    /** "60 at most each"; "A place behind a STRIP: how many .. FULL: 60." */
    private static void sixtyPlaces() {
        for (int s = 0; s < 2; s++) {
            int strip = s;
            SlideRules x = new SlideRules();
            for (int i = 1; i <= 60; i++) {
                Check.due("place " + i + " of STRIP " + strip, x.cut(strip, i), i);
            }
            Edges.leaves(x, "a 61st of STRIP " + strip, FULL, y -> y.cut(strip, 61));
            Edges.leaves(x, "a 61st of STRIP " + strip + " at the end", FULL, y -> y.cut(strip, 1000000));
            Check.due("how many of STRIP " + strip, x.count(4 + strip), 60);
            Check.due("the other has room", x.cut(1 - strip, 61), 1);
        }
    }

    /** "the first of: BAD .. FULL" */
    private static void badGoesBeforeFull() {
        SlideRules x = withStrips(sixty(100, 1), sixty(1000000 - 59, 1));
        Edges.leaves(x, "a 61st at the last", BAD, y -> y.cut(0, 159));
        Edges.leaves(x, "a 61st at -1", BAD, y -> y.cut(0, -1));
        Edges.leaves(x, "a 61st at 1000001", BAD, y -> y.cut(0, 1000001));
        Edges.leaves(x, "a 61st behind the last", FULL, y -> y.cut(0, 160));
        Edges.leaves(x, "a 61st where none can be", BAD, y -> y.cut(1, 1000000));
    }

    /** "A STRIP is empty: how many." */
    private static void wipeOfNone() {
        SlideRules x = new SlideRules();
        Edges.leaves(x, "wipe of none", 0, y -> y.wipe(0));
        Edges.leaves(x, "wipe of none, the other", 0, y -> y.wipe(1));
        for (int i = 0; i < 60; i++) {
            x.cut(0, 1000 + i);
        }
        Check.due("wipe of 60", x.wipe(0), 60);
        Check.due("none left", x.count(4), 0);
        Edges.leaves(x, "wipe again", 0, y -> y.wipe(0));
        Check.due("a place ahead of those that were", x.cut(0, 0), 1);
        Check.due("how many are chosen of it", x.chosen(0, 1, NONE), 1);
    }

    private static void wipeOneStripAlone() {
        SlideRules x = withStrips(row(5, 10), row(7));
        Check.due("wipe of one", x.wipe(0), 2);
        Check.due("the other stays", x.count(5), 1);
        Check.due("wipe of the other", x.wipe(1), 1);
    }

    /** "how many (what = NONE) .. NONE: not so many." */
    private static void chosenOfNone() {
        SlideRules x = new SlideRules();
        Edges.leaves(x, "how many of none", 0, y -> y.chosen(0, 1, NONE));
        Edges.leaves(x, "the first of none", NONE, y -> y.chosen(0, 1, 0));
        Edges.leaves(x, "what -2 of none", BAD, y -> y.chosen(0, 1, -2));
    }

    /** "NEAR (1 .. 100000)" */
    private static void nearToItsEnds() {
        SlideRules x = withStrips(row(0, 1, 100000, 100001), row());
        for (int near : new int[] {Edges.MIN, -1, 0, 100001, Edges.MAX}) {
            Edges.leaves(x, "NEAR " + near, BAD, y -> y.chosen(0, near, NONE));
            Edges.leaves(x, "NEAR " + near + ", the first", BAD, y -> y.chosen(0, near, 0));
        }
        Edges.leaves(x, "NEAR 1", 4, y -> y.chosen(0, 1, NONE));
        Edges.leaves(x, "NEAR 100000", 2, y -> y.chosen(0, 100000, NONE));
        Edges.leaves(x, "NEAR 100000, the last", 100000, y -> y.chosen(0, 100000, 1));
    }

    /** "NEAR .. or more behind the one chosen last" */
    private static void nearOrMore() {
        SlideRules x = withStrips(row(10, 14, 15, 19, 20, 26), row());
        int[] due = {10, 15, 20, 26};
        Edges.leaves(x, "by 5", due.length, y -> y.chosen(0, 5, NONE));
        for (int i = 0; i < due.length; i++) {
            int what = i;
            Edges.leaves(x, "by 5: " + what, due[i], y -> y.chosen(0, 5, what));
        }
        Edges.leaves(x, "by 6: 16 is not there", 19, y -> y.chosen(0, 6, 1));
        Edges.leaves(x, "by 16: 26 is 16 behind", 26, y -> y.chosen(0, 16, 1));
        Edges.leaves(x, "by 17: the first alone", 1, y -> y.chosen(0, 17, NONE));
    }

    /** "behind the one chosen last": not behind the place next ahead */
    private static void chosenLastNotTheOneAhead() {
        SlideRules x = withStrips(row(0, 3, 6, 9, 12), row());
        Edges.leaves(x, "by 5", 3, y -> y.chosen(0, 5, NONE));
        Edges.leaves(x, "by 5: 1", 6, y -> y.chosen(0, 5, 1));
        Edges.leaves(x, "by 5: 2", 12, y -> y.chosen(0, 5, 2));
    }

    /** "how many (what = NONE), the i-th (what = i). NONE: not so many. BAD." */
    private static void whatOfChosen() {
        SlideRules x = withStrips(row(), row(0, 5));
        Edges.leaves(x, "how many", 2, y -> y.chosen(1, 5, NONE));
        Edges.leaves(x, "the first, at 0", 0, y -> y.chosen(1, 5, 0));
        Edges.leaves(x, "the last", 5, y -> y.chosen(1, 5, 1));
        Edges.leaves(x, "behind the last", NONE, y -> y.chosen(1, 5, 2));
        Edges.leaves(x, "the max-th", NONE, y -> y.chosen(1, 5, Edges.MAX));
        Edges.leaves(x, "what -2", BAD, y -> y.chosen(1, 5, -2));
        Edges.leaves(x, "what min", BAD, y -> y.chosen(1, 5, Edges.MIN));
        SlideRules z = withStrips(sixty(0, 10), row());
        Edges.leaves(z, "the last of 60", 590, y -> y.chosen(0, 10, 59));
        Edges.leaves(z, "behind the last of 60", NONE, y -> y.chosen(0, 10, 60));
    }

    /** "(They are the most that may be.)": more than any other choice by one try of all. */
    private static void chosenAreTheMost() {
        int[] places = {0, 4, 5, 9, 11, 14, 20, 21, 27, 30};
        SlideRules x = withStrips(places, row());
        for (int near = 1; near <= 31; near++) {
            int most = 0;
            for (int kept = 0; kept < 1 << places.length; kept++) {
                int latest = -100;
                int many = 0;
                for (int i = 0; i < places.length && many >= 0; i++) {
                    if ((kept >> i & 1) == 1) {
                        many = places[i] - latest >= near ? many + 1 : -100;
                        latest = places[i];
                    }
                }
                most = Math.max(most, many);
            }
            Check.due("the most by " + near, x.chosen(0, near, NONE), most);
        }
    }

    /** "NO: one is empty: FAR." */
    private static void matchOfAnEmptyOne() {
        for (int what = 0; what < 2; what++) {
            int asked = what;
            Edges.leaves(withStrips(row(), row()), "both empty", FAR, y -> y.match(asked));
            Edges.leaves(withStrips(row(5), row()), "the second empty", FAR, y -> y.match(asked));
            Edges.leaves(withStrips(row(), row(5)), "the first empty", FAR, y -> y.match(asked));
        }
        matchDue("neither empty", withStrips(row(5), row(5)), 0, 1);
        SlideRules wiped = withStrips(row(5), row(5));
        wiped.wipe(1);
        Edges.leaves(wiped, "the second wiped", FAR, y -> y.match(0));
    }

    /** "the number (what = 0), how many (1) .. BAD: FAR." */
    private static void whatOfMatch() {
        SlideRules x = withStrips(row(5), row(3));
        for (int what : new int[] {Edges.MIN, -1, 2, Edges.MAX}) {
            Edges.leaves(x, "match(" + what + ")", FAR, y -> y.match(what));
        }
        matchDue("5 and 3", x, 2, 1);
    }

    /** "a whole number (-1000000 .. 1000000 ..)" */
    private static void matchFarthest() {
        matchDue("the farthest up", withStrips(row(1000000), row(0)), 1000000, 1);
        matchDue("the farthest down", withStrips(row(0), row(1000000)), -1000000, 1);
        matchDue("both ends", withStrips(row(0, 1000000), row(0, 1000000)), 0, 2);
        matchDue("both ends, by one", withStrips(row(0, 999999), row(1, 1000000)), -1, 2);
    }

    /** "of like sizes the one above 0" */
    private static void matchOfLikeSizes() {
        matchDue("10 or -10", withStrips(row(10, 30), row(20)), 10, 1);
        matchDue("10 or -10, the other way about", withStrips(row(20), row(10, 30)), 10, 1);
        matchDue("10 or -10, by two", withStrips(row(0, 1, 20, 21), row(10, 11)), 10, 2);
    }

    /** "the least size of a whole number .. by which the second moved so much has most places" */
    private static void matchLeastSize() {
        matchDue("9 or -10", withStrips(row(10, 29), row(20)), 9, 1);
        matchDue("11 or -10", withStrips(row(10, 31), row(20)), -10, 1);
        matchDue("0 ahead of all", withStrips(row(10, 20, 30), row(20)), 0, 1);
        matchDue("0 or 10, by two", withStrips(row(10, 20, 30), row(10, 20)), 0, 2);
    }

    /** "most places that are also the first's": more go ahead of a less size */
    private static void matchMostPlaces() {
        matchDue("one at 0, two at 500", withStrips(row(5, 500, 507), row(0, 5, 7)), 500, 2);
        matchDue("one at 0, two at -500", withStrips(row(0, 5, 7), row(5, 500, 507)), -500, 2);
        matchDue("all of the less", withStrips(row(1, 4, 9, 16, 25), row(104, 109)), -100, 2);
    }

    private static void matchOfSixty() {
        matchDue("60 alike", withStrips(sixty(0, 7), sixty(0, 7)), 0, 60);
        matchDue("60 far behind", withStrips(sixty(0, 7), sixty(999000, 7)), -999000, 60);
        matchDue("the last of one, the first of the other", withStrips(sixty(0, 60), sixty(3540, 59)), 0, 1);
        matchDue("every second", withStrips(sixty(0, 1), sixty(0, 2)), 0, 30);
    }

    /** What was found before is forgotten: behind wipe fewer may be alike, and farther off. */
    private static void matchOverAgain() {
        SlideRules x = withStrips(sixty(0, 7), sixty(0, 7));
        matchDue("60 alike", x, 0, 60);
        x.wipe(1);
        x.cut(1, 500);
        matchDue("one alike", x, -87, 1);
        x.wipe(0);
        Edges.leaves(x, "none to be alike", FAR, y -> y.match(0));
        x.cut(0, 0);
        matchDue("one alike, farther off", x, -500, 1);
    }
}
