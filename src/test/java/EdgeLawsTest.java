/** The edges that the document names for RULERS of laws (promises 24 and 25), each sentence by itself. */
public final class EdgeLawsTest {
    private static final int BAD = Edges.BAD;

    public static void main(String[] args) {
        lawsToTheirEnds();
        numbersToTheirEnds();
        firstAndLast();
        fewestSteps();
        partsRiseFromSixtyDown();
        partsAreCutDown();
        nearestStep();
        ofTwoAlikeTheGreater();
        lawByTheRuleOfNow();
        doubledPairsWithTheFirst();
        doubledOfUnlikeNumbers();
        doubledNoFartherThanTheLast();
        doubledByTheRuleOfNow();
        Check.end();
    }

    /** "a LAW 0 .. 3"; "BAD." */
    private static void lawsToTheirEnds() {
        SlideRules x = new SlideRules();
        for (int law : new int[] {Edges.MIN, -1, 4, Edges.MAX}) {
            Edges.leaves(x, "law " + law, BAD, y -> y.law(law, 1));
            Edges.leaves(x, "doubled " + law, BAD, y -> y.doubled(law));
        }
        Edges.leaves(x, "squares", 0, y -> y.law(0, 1));
        Edges.leaves(x, "triangles", 0, y -> y.law(3, 1));
        Edges.leaves(x, "doubled triangles", 84, y -> y.doubled(3));
    }

    /** "for v 1 .. 60" */
    private static void numbersToTheirEnds() {
        SlideRules x = new SlideRules();
        for (int k = 0; k < 4; k++) {
            int law = k;
            for (int v : new int[] {Edges.MIN, -1, 0, 61, Edges.MAX}) {
                Edges.leaves(x, "law " + law + " of " + v, BAD, y -> y.law(law, v));
            }
        }
    }

    /** "v's number less the first's ..": the first stands at 0, the last at LONG, on every LONG. */
    private static void firstAndLast() {
        for (int steps : new int[] {100, 101, 10000, 49999, 50000}) {
            SlideRules x = new SlideRules();
            x.rule(steps);
            for (int k = 0; k < 4; k++) {
                int law = k;
                Edges.leaves(x, steps + ", law " + law + ": the first", 0, y -> y.law(law, law == 2 ? 60 : 1));
                Edges.leaves(x, steps + ", law " + law + ": the last", steps, y -> y.law(law, law == 2 ? 1 : 60));
            }
        }
    }

    /** On 100 steps many numbers stand at one PLACE. */
    private static void fewestSteps() {
        SlideRules x = new SlideRules();
        x.rule(100);
        Check.due("square of 4: 0.42", x.law(0, 4), 0);
        Check.due("square of 5: 0.67", x.law(0, 5), 1);
        Check.due("square of 59: 96.69", x.law(0, 59), 97);
        Check.due("cube of 10: 0.46", x.law(1, 10), 0);
        Check.due("cube of 11: 0.62", x.law(1, 11), 1);
        Check.due("a half: 49.15", x.law(2, 2), 49);
        Check.due("a 59th: 0.03", x.law(2, 59), 0);
        Check.due("triangle of 4: 0.49", x.law(3, 4), 0);
        Check.due("triangle of 5: 0.77", x.law(3, 5), 1);
    }

    /** "(of 2 from 60 down to 1) numbers rising" */
    private static void partsRiseFromSixtyDown() {
        SlideRules x = new SlideRules();
        for (int v = 2; v <= 60; v++) {
            Check.that("parts fall at " + v, x.law(2, v) < x.law(2, v - 1));
            for (int law : new int[] {0, 1, 3}) {
                Check.that("law " + law + " does not fall at " + v, x.law(law, v) >= x.law(law, v - 1));
            }
        }
    }

    /** "parts (1000000 by v, cut down)": 16666 of 60, 16949 of 59 (not 16949.15), 142857 of 7 */
    private static void partsAreCutDown() {
        SlideRules x = new SlideRules();
        x.rule(50000);
        Check.due("of 59: 283 / 983334", x.law(2, 59), 14);
        Check.due("of 7: 126191 / 983334", x.law(2, 7), 6416);
        Check.due("of 2: 483334 / 983334", x.law(2, 2), 24576);
    }

    /** "nearest": just below and just above a half step */
    private static void nearestStep() {
        SlideRules x = new SlideRules();
        x.rule(915);
        Check.due("triangle of 3: 2.5014", x.law(3, 3), 3);
        x.rule(914);
        Check.due("triangle of 3: 2.4986", x.law(3, 3), 2);
        x.rule(1800);
        Check.due("square of 2: 1.5004", x.law(0, 2), 2);
        x.rule(1799);
        Check.due("square of 2: 1.4996", x.law(0, 2), 1);
    }

    /** "(of two alike the greater)": parts alone can stand there */
    private static void ofTwoAlikeTheGreater() {
        SlideRules x = new SlideRules();
        x.rule(44697);
        Check.due("299 and a half", x.law(2, 43), 300);
        Check.due("275 and a half", x.law(2, 44), 276);
        x.rule(44696);
        Check.due("a little less than 299 and a half", x.law(2, 43), 299);
        x.rule(44698);
        Check.due("a little more than 299 and a half", x.law(2, 43), 300);
    }

    /** "PLACED on LONG" - of now */
    private static void lawByTheRuleOfNow() {
        SlideRules x = new SlideRules();
        Check.due("LONG 10000", x.law(0, 30), 2498);
        x.rule(100);
        Check.due("LONG 100", x.law(0, 30), 25);
        x.rule(50000);
        Check.due("LONG 50000", x.law(0, 30), 12490);
    }

    /** "in how many pairs v < w .. the sum of both PLACES is a PLACE": with the first, at 0, each is */
    private static void doubledPairsWithTheFirst() {
        for (int steps : new int[] {100, 10000, 50000}) {
            SlideRules x = new SlideRules();
            x.rule(steps);
            for (int law = 0; law < 4; law++) {
                Check.that(steps + ": 59 pairs or more of law " + law, x.doubled(law) >= 59);
            }
        }
    }

    private static int doublesByCounting(SlideRules x, int law, boolean alsoItself, boolean beyond) {
        int many = 0;
        for (int v = 1; v <= 60; v++) {
            for (int w = alsoItself ? v : v + 1; w <= 60; w++) {
                int sum = x.law(law, v) + x.law(law, w);
                boolean is = beyond && sum > x.count(6);
                for (int u = 1; u <= 60; u++) {
                    is |= x.law(law, u) == sum;
                }
                many += is ? 1 : 0;
            }
        }
        return many;
    }

    /** "pairs v < w": a number with itself is no pair, though on 3599 steps 0 and 0 would be one */
    private static void doubledOfUnlikeNumbers() {
        SlideRules x = new SlideRules();
        x.rule(3599);
        Check.due("squares on 3599", x.doubled(0), 97);
        for (int law = 0; law < 4; law++) {
            Check.due("counted, law " + law, x.doubled(law), doublesByCounting(x, law, false, false));
            Check.that("law " + law + " with itself would be more",
                    x.doubled(law) < doublesByCounting(x, law, true, false));
        }
    }

    /** A sum beyond LONG is no PLACE; LONG itself is one. */
    private static void doubledNoFartherThanTheLast() {
        SlideRules x = new SlideRules();
        x.rule(100);
        for (int law = 0; law < 4; law++) {
            Check.due("counted, law " + law, x.doubled(law), doublesByCounting(x, law, false, false));
            Check.that("law " + law + " beyond LONG would be more",
                    x.doubled(law) < doublesByCounting(x, law, false, true));
        }
    }

    private static void doubledByTheRuleOfNow() {
        SlideRules x = new SlideRules();
        Edges.leaves(x, "squares on 10000", 90, y -> y.doubled(0));
        Edges.leaves(x, "triangles on 10000", 84, y -> y.doubled(3));
        x.rule(3599);
        Edges.leaves(x, "squares on 3599", 97, y -> y.doubled(0));
        x.rule(10000);
        Edges.leaves(x, "squares on 10000 again", 90, y -> y.doubled(0));
    }
}
