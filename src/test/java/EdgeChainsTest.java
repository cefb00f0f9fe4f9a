import java.math.BigInteger;
import java.util.Arrays;

/** The edges that the document names for THE CHAIN and for PAIRS (promises 14 to 17), each sentence by itself. */
public final class EdgeChainsTest {
    private static final int BAD = Edges.BAD, FULL = Edges.FULL, FAR = Edges.FAR;

    public static void main(String[] args) {
        factorsToTheirEnds();
        twelveFactors();
        badGoesBeforeFull();
        clearOfNone();
        chainOfNone();
        whatOfChain();
        pulledWhereThatIsLong();
        pulledEachTime();
        readingOfLikeOnes();
        readingIsThreeDigits();
        truthBelowTen();
        truthCutDown();
        truthOfTwelve();
        missBelowAndAbove();
        chainByTheRuleOfNow();
        plainWhateverScales();
        pairNumbersToTheirEnds();
        pairEachToItsEnds();
        hundredNumbers();
        fromAboveTo();
        whatOfPairs();
        pairOfItself();
        firstPairOfTheWorst();
        pairsPulled();
        pairsByTheRuleOfNow();
        pairsLeaveTheChain();
        Check.end();
    }

    private static SlideRules withFactors(int... factors) {
        SlideRules x = new SlideRules();
        for (int v : factors) {
            x.factor(v);
        }
        return x;
    }

    private static void chainDue(String of, SlideRules x, int place, int reading, int truth, int pulled) {
        int[] due = {place, reading, truth, reading - truth, pulled};
        for (int i = 0; i < due.length; i++) {
            int what = i;
            Edges.leaves(x, of + ": chain(" + what + ")", due[i], y -> y.chain(what));
        }
    }

    private static void pairsDue(String of, SlideRules x, int from, int to, int d, int... due) {
        for (int i = 0; i < due.length; i++) {
            int what = i;
            Edges.leaves(x, of + ": pairs(.. " + what + ")", due[i], y -> y.pairs(from, to, d, what));
        }
    }

    /** "factors (100 .. 999)" */
    private static void factorsToTheirEnds() {
        SlideRules x = new SlideRules();
        for (int v : new int[] {Edges.MIN, -100, 0, 99, 1000, Edges.MAX}) {
            Edges.leaves(x, "factor " + v, BAD, y -> y.factor(v));
        }
        Check.due("factor 100", x.factor(100), 1);
        Check.due("factor 999", x.factor(999), 2);
        Edges.leaves(x, "factor 1000 behind them", BAD, y -> y.factor(1000));
        Check.due("two factors", x.count(3), 2);
    }

    /** "up to 12"; "FULL: 12." */
    private static void twelveFactors() {
        SlideRules x = new SlideRules();
        for (int i = 1; i <= 12; i++) {
            Check.due("factor " + i, x.factor(100 + i), i);
        }
        Edges.leaves(x, "a 13th", FULL, y -> y.factor(100));
        Check.due("twelve", x.count(3), 12);
        Check.due("twelve emptied", x.clear(), 12);
        Check.due("a first again", x.factor(100), 1);
    }

    /** "the first of: BAD .. FULL" */
    private static void badGoesBeforeFull() {
        SlideRules x = withFactors(100, 100, 100, 100, 100, 100, 100, 100, 100, 100, 100, 100);
        Edges.leaves(x, "a 13th, 99", BAD, y -> y.factor(99));
        Edges.leaves(x, "a 13th, 1000", BAD, y -> y.factor(1000));
        Edges.leaves(x, "a 13th, 999", FULL, y -> y.factor(999));
    }

    /** "THE CHAIN is empty: how many." */
    private static void clearOfNone() {
        SlideRules x = new SlideRules();
        Edges.leaves(x, "clear of none", 0, y -> y.clear());
        x.factor(999);
        x.factor(999);
        Check.due("clear of two", x.clear(), 2);
        Edges.leaves(x, "clear again", 0, y -> y.clear());
        chainDue("cleared", x, 0, 100, 100, 0);
    }

    /** "the place begins at 0"; the product of no factors is 1 */
    private static void chainOfNone() {
        SlideRules x = new SlideRules();
        chainDue("no factors", x, 0, 100, 100, 0);
        x.rule(50000);
        chainDue("no factors, LONG 50000", x, 0, 100, 100, 0);
        x.rule(100);
        chainDue("no factors, LONG 100", x, 0, 100, 100, 0);
    }

    /** "0 its place .. 4 how often PULLED. BAD: FAR." */
    private static void whatOfChain() {
        SlideRules x = withFactors(200);
        for (int what : new int[] {Edges.MIN, -1, 5, Edges.MAX}) {
            Edges.leaves(x, "chain(" + what + ")", FAR, y -> y.chain(what));
        }
        Edges.leaves(x, "chain(0)", 3010, y -> y.chain(0));
        Edges.leaves(x, "chain(4)", 0, y -> y.chain(4));
    }

    /** "where that is LONG or more LONG goes off: PULLED" */
    private static void pulledWhereThatIsLong() {
        chainDue("LONG less 1", withFactors(101, 990), 9999, 999, 999, 0);
        chainDue("LONG", withFactors(200, 500), 0, 100, 100, 1);
        chainDue("LONG and more", withFactors(200, 501), 8, 100, 100, 1);
        chainDue("LONG less 4", withFactors(999), 9996, 999, 999, 0);
        SlideRules x = withFactors(999);
        x.rule(100);
        chainDue("LONG by one factor", x, 0, 100, 999, 1);
        x.factor(100);
        chainDue("no step more", x, 0, 100, 999, 1);
    }

    /** Each factor that comes to LONG pulls once. */
    private static void pulledEachTime() {
        SlideRules x = new SlideRules();
        x.rule(100);
        for (int i = 1; i <= 12; i++) {
            x.factor(999);
            Check.due("pulled at factor " + i, x.chain(4), i);
            Check.due("place at factor " + i, x.chain(0), 0);
        }
        SlideRules z = withFactors(999, 999, 999, 999, 999, 999, 999, 999, 999, 999, 999, 999);
        chainDue("twelve, LONG 10000", z, 9996 - 11 * 4, 989, 988, 11);
        SlideRules w = withFactors(100, 100, 100, 100, 100, 100, 100, 100, 100, 100, 100, 100);
        chainDue("twelve of 1", w, 0, 100, 100, 0);
    }

    /** "nearest to it (of like ones the least)": midway, and where numbers stand at one PLACE */
    private static void readingOfLikeOnes() {
        chainDue("midway of 1790 and 1818", withFactors(101, 150), 1804, 151, 151, 0);
        SlideRules x = withFactors(103);
        x.rule(100);
        chainDue("102 and 103 at 1", x, 1, 102, 103, 0);
        SlideRules z = withFactors(999);
        z.rule(101);
        chainDue("at LONG", z, 0, 100, 999, 1);
        SlideRules w = withFactors(988);
        w.rule(100);
        chainDue("967 .. 988 at 99", w, 99, 967, 988, 0);
    }

    /** "the number 100 .. 999": a place nearer to 1000 or to what 1 would be a tenfold on is read at the last. */
    private static void readingIsThreeDigits() {
        chainDue("9999", withFactors(101, 990), 9999, 999, 999, 0);
        SlideRules x = withFactors(101, 990);
        x.rule(50000);
        int place = x.place(x.scale(false, 1, 10, false), 101) + x.place(0, 990);
        chainDue("between 9.99 and 10", x, place, 999, 999, 0);
        SlideRules z = withFactors(100);
        chainDue("the first", z, 0, 100, 100, 0);
    }

    /** "brought below 10 by tenfolds (exactly)": 10 itself is 1, and just below stays */
    private static void truthBelowTen() {
        Check.due("10", withFactors(200, 500).chain(2), 100);
        Check.due("100", withFactors(400, 500, 500).chain(2), 100);
        Check.due("9.999", withFactors(101, 990).chain(2), 999);
        Check.due("9.99", withFactors(999).chain(2), 999);
        Check.due("1", withFactors(100).chain(2), 100);
        Check.due("10.01", withFactors(910, 110).chain(2), 100);
        Check.due("10^8", withFactors(250, 400, 250, 400, 250, 400, 250, 400, 250, 400, 250, 400).chain(2), 100);
    }

    /** "in hundredths cut down" */
    private static void truthCutDown() {
        Check.due("1.0099", withFactors(101, 100).chain(2), 101);
        Check.due("2.9999..", withFactors(999, 300).chain(2), 299);
        Check.due("99.8001", withFactors(999, 999).chain(2), 998);
        Check.due("1.9998", withFactors(101, 198).chain(2), 199);
        Check.due("2.0000", withFactors(125, 160).chain(2), 200);
    }

    /** "exactly": the last number of a row is due; the products are as near to whole hundredths as any found. */
    private static void truthOfTwelve() {
        int[][] rows = {
            {686, 615, 216, 818, 748, 873, 502, 103, 773, 869, 426, 865, 622},
            {351, 593, 863, 981, 945, 228, 262, 878, 666, 201, 612, 921, 658},
            {290, 496, 140, 482, 769, 481, 829, 228, 667, 323, 426, 798, 496},
            {139, 108, 464, 834, 462, 722, 758, 911, 147, 745, 580, 913, 775},
            {459, 485, 515, 320, 842, 142, 192, 870, 233, 688, 823, 840, 812},
            {923, 921, 636, 855, 287, 259, 726, 543, 964, 895, 164, 156, 299},
            {709, 794, 257, 970, 430, 290, 174},
            {709, 397, 257, 970, 430, 290, 874},
            {300, 333, 100, 999},
            {999, 999, 999, 999, 999, 999, 999, 999, 999, 999, 999, 999, 988},
            {500, 200, 500, 200, 500, 200, 500, 200, 500, 200, 500, 200, 100},
            {101, 101, 101, 101, 101, 101, 101, 101, 101, 101, 101, 101, 112},
        };
        for (int[] row : rows) {
            int[] factors = Arrays.copyOf(row, row.length - 1);
            BigInteger product = BigInteger.ONE;
            for (int v : factors) {
                product = product.multiply(BigInteger.valueOf(v));
            }
            Check.due("the truth of " + product, withFactors(factors).chain(2), row[row.length - 1]);
            Check.due("the first of " + product, Integer.parseInt(product.toString().substring(0, 3)), row[row.length - 1]);
        }
    }

    /** "MISS: READING less TRUTH": below 0, 0, above 0, and where the place is pulled and the product is not */
    private static void missBelowAndAbove() {
        SlideRules below = withFactors(999, 999);
        below.rule(3599);
        Check.due("below", below.chain(3), -1);
        Check.due("none", withFactors(200, 300).chain(3), 0);
        SlideRules above = withFactors(988);
        above.rule(100);
        Check.due("far below", above.chain(3), 967 - 988);
        SlideRules most = withFactors(999);
        most.rule(100);
        Check.due("the most below", most.chain(3), 100 - 999);
        SlideRules over = withFactors(200, 501);
        over.rule(100);
        Check.due("30 and 70 are 100", over.chain(0), 0);
        Check.due("10.02 read as 1", over.chain(3), 0);
        SlideRules up = withFactors(999, 999, 999, 999, 999, 999, 999, 999, 999, 999, 999, 999);
        Check.due("above", up.chain(3), 1);
    }

    /** THE CHAIN is its factors: its places are by the LONG of now. */
    private static void chainByTheRuleOfNow() {
        SlideRules x = withFactors(200, 300);
        chainDue("LONG 10000", x, 7781, 600, 600, 0);
        x.rule(100);
        chainDue("LONG 100", x, 78, 596, 600, 0);
        x.rule(50000);
        chainDue("LONG 50000", x, 15051 + 23856, 600, 600, 0);
        x.rule(10000);
        chainDue("LONG 10000 again", x, 7781, 600, 600, 0);
    }

    /** "(a plain SCALE: PARTS 1, FOLD 1)": no SCALE that there is, nor OFF, is asked. */
    private static void plainWhateverScales() {
        SlideRules x = withFactors(200, 300);
        x.scale(true, 3, 990, true);
        x.off(777);
        chainDue("other SCALES", x, 7781, 600, 600, 0);
        Check.due("pairs beside other SCALES", x.pairs(300, 330, 10, 5), 4);
    }

    /** "numbers from .. to .. (100 .. 999)" */
    private static void pairNumbersToTheirEnds() {
        SlideRules x = new SlideRules();
        for (int v : new int[] {Edges.MIN, 0, 99, 1000, Edges.MAX}) {
            Edges.leaves(x, "from " + v, BAD, y -> y.pairs(v, 999, 100, 4));
            Edges.leaves(x, "to " + v, BAD, y -> y.pairs(100, v, 100, 4));
            Edges.leaves(x, "both " + v, BAD, y -> y.pairs(v, v, 1, 4));
        }
        Edges.leaves(x, "100 .. 999", 45, y -> y.pairs(100, 999, 100, 4));
        Edges.leaves(x, "100 .. 100", 1, y -> y.pairs(100, 100, 1, 4));
        Edges.leaves(x, "999 .. 999", 1, y -> y.pairs(999, 999, 1, 4));
    }

    /** "each d", with the bounds that each d has */
    private static void pairEachToItsEnds() {
        SlideRules x = new SlideRules();
        for (int d : new int[] {Edges.MIN, -1, 0, 10001, Edges.MAX}) {
            Edges.leaves(x, "each " + d, BAD, y -> y.pairs(100, 150, d, 4));
        }
        Edges.leaves(x, "each 1", 51 * 52 / 2, y -> y.pairs(100, 150, 1, 4));
        Edges.leaves(x, "each 50", 3, y -> y.pairs(100, 150, 50, 4));
        Edges.leaves(x, "each 51", 1, y -> y.pairs(100, 150, 51, 4));
        Edges.leaves(x, "each 10000", 1, y -> y.pairs(100, 150, 10000, 4));
    }

    /** "BAD: .. more than 100 numbers, too." */
    private static void hundredNumbers() {
        SlideRules x = new SlideRules();
        Edges.leaves(x, "100 numbers", 5050, y -> y.pairs(100, 199, 1, 4));
        Edges.leaves(x, "101 numbers", BAD, y -> y.pairs(100, 200, 1, 4));
        Edges.leaves(x, "900 numbers", BAD, y -> y.pairs(100, 999, 1, 4));
        Edges.leaves(x, "100 numbers, each 9", 5050, y -> y.pairs(100, 999, 9, 4));
        Edges.leaves(x, "100 numbers, each 8, to not one", 5050, y -> y.pairs(100, 899, 8, 4));
        Edges.leaves(x, "101 numbers, each 8", BAD, y -> y.pairs(100, 900, 8, 4));
        Edges.leaves(x, "the last 100", 5050, y -> y.pairs(900, 999, 1, 4));
        Edges.leaves(x, "the last 101", BAD, y -> y.pairs(899, 999, 1, 4));
    }

    /** "BAD: from above to .. too." */
    private static void fromAboveTo() {
        SlideRules x = new SlideRules();
        Edges.leaves(x, "from a step above to", BAD, y -> y.pairs(201, 200, 1, 4));
        Edges.leaves(x, "from 999 to 100", BAD, y -> y.pairs(999, 100, 10, 4));
        Edges.leaves(x, "from as to", 1, y -> y.pairs(200, 200, 1, 4));
    }

    /** "0 WORST .. 5 how often PULLED in all. BAD" */
    private static void whatOfPairs() {
        SlideRules x = new SlideRules();
        for (int what : new int[] {Edges.MIN, -1, 6, Edges.MAX}) {
            Edges.leaves(x, "what " + what, BAD, y -> y.pairs(300, 330, 10, what));
        }
        pairsDue("six questions", x, 300, 330, 10, 1, 320, 330, 2, 10, 4);
    }

    /** "PAIRS a <= b": a number goes with itself; from alone, one pair */
    private static void pairOfItself() {
        SlideRules x = new SlideRules();
        pairsDue("100 alone", x, 100, 100, 1, 0, 100, 100, 0, 1, 0);
        pairsDue("999 alone", x, 999, 999, 1, 0, 999, 999, 0, 1, 1);
        pairsDue("to not reached", x, 200, 209, 10, 0, 200, 200, 0, 1, 0);
        pairsDue("two numbers", x, 200, 210, 10, 0, 200, 200, 0, 3, 0);
    }

    /** "WORST (the greatest size), the first pair of that": where none is off, the first of all */
    private static void firstPairOfTheWorst() {
        SlideRules x = new SlideRules();
        pairsDue("none off", x, 200, 210, 5, 0, 200, 200, 0, 6, 0);
        pairsDue("a like one comes later", x, 300, 340, 10, 1, 320, 330, 4, 15, 9);
        x.rule(100);
        pairsDue("a greater one comes later", x, 998, 999, 1, 898, 999, 999, 896 + 897 + 898, 3, 6);
    }

    /** "how often PULLED in all": a pair may be PULLED twice */
    private static void pairsPulled() {
        SlideRules x = new SlideRules();
        Check.due("none", x.pairs(100, 300, 100, 5), 0);
        Check.due("200 by 500 is LONG", x.pairs(200, 500, 300, 5), 2);
        x.rule(100);
        Check.due("each twice", x.pairs(990, 999, 1, 5), 110);
    }

    private static void pairsByTheRuleOfNow() {
        SlideRules x = new SlideRules();
        Check.due("LONG 10000", x.pairs(999, 999, 1, 0), 0);
        x.rule(100);
        Check.due("LONG 100", x.pairs(999, 999, 1, 0), 898);
        Check.due("LONG 100, another d", x.pairs(999, 999, 2, 0), 898);
        Check.due("LONG 100, another to", x.pairs(100, 999, 899, 4), 3);
        Check.due("LONG 100, another from", x.pairs(999, 999, 899, 4), 1);
        x.rule(10000);
        Check.due("LONG 10000 again", x.pairs(999, 999, 1, 0), 0);
    }

    private static void pairsLeaveTheChain() {
        SlideRules x = withFactors(200, 300);
        x.pairs(100, 199, 1, 3);
        chainDue("behind pairs", x, 7781, 600, 600, 0);
        Check.due("a third factor", x.factor(400), 3);
        Check.due("pairs behind a factor", x.pairs(300, 330, 10, 4), 10);
    }
}
