/** Promises 2, 3, 4: RULES, SCALES and the PLACES of numbers on them. */
public final class PlacesTest {
    private static final int FAR = SlideRules.FAR;

    // LONG, v, FOLD, q: the places that come nearest to a half step, above and below it (found by a
    // search of every v, FOLD and LONG); arithmetic on doubles can not decide them
    private static final int[][] HARD = {
        {30428, 51745, 448, 3}, {15957, 23007, 886, 2}, {34833, 13430, 761, 2}, {17998, 62545, 873, 3},
        {25639, 38756, 29, 2}, {25639, 77512, 58, 2}, {25639, 9689, 725, 2}, {48404, 70973, 111, 3},
        {31015, 86872, 897, 3}, {23945, 69845, 788, 3}, {8111, 73923, 170, 3}, {358, 19769, 25, 3},
        {358, 98845, 125, 3}, {26047, 99215, 529, 2}, {30980, 52713, 416, 3}, {30428, 10349, 896, 1},
        {13494, 25674, 455, 1}, {13494, 51348, 91, 1}, {40482, 51348, 910, 3}, {33399, 59299, 153, 1},
        {26680, 49869, 37, 3}, {47871, 23007, 886, 2}, {43451, 69636, 289, 3}, {29055, 50764, 759, 1},
        {12050, 11886, 923, 1}, {43795, 20193, 261, 3}, {17372, 64516, 799, 1},
    };
    private static final int[] HARD_DUE = {
        10778, 3306, 4296, 5131, 27254, 27254, 1615, 29135, 10194, 7564, 4429, 227, 227, 16580, 11388, 1905, 10141,
        23635, 10141, 53049, 18939, 9919, 20015, 23980, 1324,
        12972, 15759,
    };

    public static void main(String[] args) {
        rules();
        scalesTold();
        plainPlaces();
        foldedPartsTurned();
        halfSteps();
        hardPlaces();
        manyPlaces();
        placesRefused();
        Check.end();
    }

    private static void rules() {
        SlideRules x = new SlideRules();
        Check.due("rule(50000)", x.rule(50000), 10000);
        Check.due("rule(50001)", x.rule(50001), -2);
        Check.due("rule(100)", x.rule(100), 50000);
        Check.due("rule(99)", x.rule(99), -2);
        Check.due("rule(min)", x.rule(Integer.MIN_VALUE), -2);
        Check.due("rule(max)", x.rule(Integer.MAX_VALUE), -2);
        Check.due("count(6)", x.count(6), 100);
        Check.due("rule(100) again", x.rule(100), 100);
    }

    private static void scalesTold() {
        SlideRules x = new SlideRules();
        Check.due("scale q 0", x.scale(false, 0, 10, false), -2);
        Check.due("scale q 4", x.scale(false, 4, 10, false), -2);
        Check.due("scale fold 9", x.scale(true, 1, 9, false), -2);
        Check.due("scale fold 991", x.scale(true, 1, 991, true), -2);
        Check.due("no scale yet", x.count(0), 0);
        for (int i = 0; i < 8; i++) {
            Check.due("scale " + i, x.scale(i % 2 == 1, 1 + i % 3, i < 4 ? 10 : 990, i > 5), i);
        }
        Check.due("a ninth scale", x.scale(false, 1, 10, false), -4);
        Check.due("a ninth scale, bad", x.scale(false, 4, 10, false), -2);
        Check.due("count(0)", x.count(0), 8);
        Check.due("count(1)", x.count(1), 4);
    }

    private static void plainPlaces() {
        SlideRules x = new SlideRules();
        x.scale(false, 1, 10, false);
        Check.due("place of 1", x.place(0, 100), 0);
        Check.due("place of 2", x.place(0, 200), 3010);
        Check.due("place of 9.99", x.place(0, 999), 9996);
        Check.due("place of 10", x.place(0, 1000), 10000);
        Check.due("place of 20", x.place(0, 2000), 13010);
        Check.due("place of 999.99", x.place(0, 99999), 30000);
        Check.due("place of 1000", x.place(0, 100000), 30000);
        x.rule(50000);
        Check.due("place of 999.99 on a longer rule", x.place(0, 99999), 150000);
        Check.due("place of 999.97 on a longer rule", x.place(0, 99997), 149999);
        x.rule(100);
        Check.due("place of 9.99 on the shortest rule", x.place(0, 999), 100);
    }

    private static void foldedPartsTurned() {
        SlideRules x = new SlideRules();
        x.scale(false, 2, 10, false);
        x.scale(false, 3, 10, true);
        x.scale(true, 1, 31, false);
        x.scale(true, 1, 990, true);
        Check.due("halves", x.place(0, 300), 2386);
        Check.due("thirds turned", x.place(1, 300), 10000 - 1590);
        Check.due("folded at the fold", x.place(2, 310), 0);
        Check.due("folded below the fold", x.place(2, 100), -4914);
        Check.due("folded by 99, turned", x.place(3, 100), 10000 + 19956);
        Check.due("the same at the end", x.place(3, 100000), 10000 - 10044);
    }

    private static void halfSteps() {
        SlideRules x = new SlideRules();
        x.scale(false, 2, 10, false);
        x.scale(false, 2, 10, true);
        x.scale(false, 2, 100, false);
        x.scale(false, 2, 990, true);
        x.rule(101);
        Check.due("half of 101", x.place(0, 1000), 51);
        Check.due("three halves of 101", x.place(0, 100000), 152);
        Check.due("half of 101, turned: 101 less 51", x.place(1, 1000), 50);
        Check.due("less half of 101: the greater", x.place(2, 100), -50);
        Check.due("no step", x.place(2, 1000), 0);
        Check.due("half of 101 by a fold of 99", x.place(3, 99000), 50);
        x.rule(49999);
        Check.due("half of 49999", x.place(0, 1000), 25000);
        Check.due("less half of 49999", x.place(2, 100), -24999);
        Check.due("half of 49999 by a fold", x.place(2, 10000), 25000);
    }

    private static void hardPlaces() {
        for (int i = 0; i < HARD.length; i++) {
            int[] row = HARD[i];
            SlideRules x = new SlideRules();
            x.scale(false, row[3], row[2], false);
            x.scale(true, row[3], row[2], true);
            x.rule(row[0]);
            String call = "LONG " + row[0] + " FOLD " + row[2] + " q " + row[3] + ": place of " + row[1];
            Check.due(call, x.place(0, row[1]), HARD_DUE[i]);
            Check.due(call + ", turned", x.place(1, row[1]), row[0] - HARD_DUE[i]);
            if (i % 4 == 0) {
                Check.due(call + ", by powers", ExactPlace.of(row[1], row[0], row[3], row[2]), HARD_DUE[i]);
            }
        }
    }

    private static void manyPlaces() {
        int[] longs = {100, 997, 10000, 31415, 50000};
        int[] folds = {10, 31, 100, 314, 990};
        for (int q = 1; q <= 3; q++) {
            SlideRules x = new SlideRules();
            for (int f = 0; f < folds.length; f++) {
                x.scale(false, q, folds[f], false);
            }
            for (int steps : longs) {
                x.rule(steps);
                for (int f = 0; f < folds.length; f++) {
                    for (int v = 100; v <= 100000; v += v < 2000 ? 1 : 37) {
                        int want = ExactPlace.of(v, steps, q, folds[f]);
                        Check.due(steps + ", " + folds[f] + ", " + q + ": place of " + v, x.place(f, v), want);
                    }
                }
            }
        }
    }

    private static void placesRefused() {
        SlideRules x = new SlideRules();
        Check.due("no scale", x.place(0, 200), FAR);
        x.scale(false, 1, 10, false);
        Check.due("scale -1", x.place(-1, 200), FAR);
        Check.due("scale 1", x.place(1, 200), FAR);
        Check.due("scale max", x.place(Integer.MAX_VALUE, 200), FAR);
        for (int i = 1; i < 8; i++) {
            x.scale(true, 1, 10, false);
        }
        Check.due("scale 8", x.place(8, 200), FAR);
        Check.due("v 99", x.place(0, 99), FAR);
        Check.due("v 100001", x.place(0, 100001), FAR);
        Check.due("v min", x.place(0, Integer.MIN_VALUE), FAR);
    }
}
