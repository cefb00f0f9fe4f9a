import java.math.BigInteger;

/** Promises 14, 15, 16, 17: THE CHAIN of factors and the sums OF PAIRS. */
public final class ChainsTest {
    private static final int FAR = SlideRules.FAR;

    public static void main(String[] args) {
        factors();
        emptyChain();
        readings();
        shortRule();
        truths();
        pairsTold();
        pairsRefused();
        pairsByEveryRule();
        Check.end();
    }

    private static void factors() {
        SlideRules x = new SlideRules();
        Check.due("factor 99", x.factor(99), -2);
        Check.due("factor 1000", x.factor(1000), -2);
        Check.due("factor min", x.factor(Integer.MIN_VALUE), -2);
        for (int i = 1; i <= 12; i++) {
            Check.due("factor " + i, x.factor(i % 2 == 0 ? 100 : 999), i);
        }
        Check.due("a 13th", x.factor(500), -4);
        Check.due("a 13th, bad", x.factor(1000), -2);
        Check.due("count(3)", x.count(3), 12);
        Check.due("clear", x.clear(), 12);
        Check.due("clear again", x.clear(), 0);
        Check.due("factor after clear", x.factor(500), 1);
    }

    private static void emptyChain() {
        SlideRules x = new SlideRules();
        int[] want = {0, 100, 100, 0, 0};
        for (int what = 0; what < 5; what++) {
            Check.due("empty chain(" + what + ")", x.chain(what), want[what]);
        }
        Check.due("chain(-1)", x.chain(-1), FAR);
        Check.due("chain(5)", x.chain(5), FAR);
    }

    private static void chainDue(SlideRules x, int place, int reading, int truth, int pulled) {
        Check.due("place", x.chain(0), place);
        Check.due("reading", x.chain(1), reading);
        Check.due("truth", x.chain(2), truth);
        Check.due("miss", x.chain(3), reading - truth);
        Check.due("pulled", x.chain(4), pulled);
    }

    private static void readings() {
        SlideRules x = new SlideRules();
        x.factor(200);
        chainDue(x, 3010, 200, 200, 0);
        x.factor(500);
        chainDue(x, 0, 100, 100, 1);
        x.factor(999);
        chainDue(x, 9996, 999, 999, 1);
        x.factor(999);
        chainDue(x, 9992, 998, 998, 2);
        x.rule(1000);
        chainDue(x, 0, 100, 998, 3);
        x.rule(50000);
        chainDue(x, 49956, 998, 998, 2);
        SlideRules y = new SlideRules();
        y.factor(101);
        y.factor(990);
        // 1000 would stand nearer, but a READING is 999 at most
        chainDue(y, 9999, 999, 999, 0);
        y.clear();
        y.factor(101);
        y.factor(150);
        // midway of 1790 (1.51) and 1818 (1.52): of like ones the least
        chainDue(y, 1804, 151, 151, 0);
    }

    /** On a RULE of 100 steps the PLACE of 999 is LONG itself, so that it is PULLED at once. */
    private static void shortRule() {
        SlideRules x = new SlideRules();
        x.rule(100);
        x.factor(999);
        chainDue(x, 0, 100, 999, 1);
        x.factor(110);
        chainDue(x, 4, 109, 109, 1);
        x.clear();
        x.factor(102);
        chainDue(x, 1, 102, 102, 0);
        x.clear();
        x.factor(103);
        chainDue(x, 1, 102, 103, 0);
        x.clear();
        x.factor(998);
        chainDue(x, 0, 100, 998, 1);
        x.clear();
        x.factor(988);
        chainDue(x, 99, 967, 988, 0);
    }

    private static void truths() {
        for (int seed = 0; seed < 200; seed++) {
            SlideRules x = new SlideRules();
            BigInteger product = BigInteger.ONE;
            for (int i = 0; i < 12; i++) {
                int v = seed == 0 ? 999 : seed == 1 ? 100 : 100 + (seed * 7919 + i * i * 104729 + i * seed) % 900;
                x.factor(v);
                product = product.multiply(BigInteger.valueOf(v));
                int truth = Integer.parseInt(product.toString().substring(0, 3));
                Check.due("truth of " + product, x.chain(2), truth);
            }
        }
    }

    private static void pairsDue(SlideRules x, int from, int to, int d, int... want) {
        for (int what = 0; what < want.length; what++) {
            Check.due("pairs(" + from + ", " + to + ", " + d + ", " + what + ")", x.pairs(from, to, d, what), want[what]);
        }
    }

    private static void pairsTold() {
        SlideRules x = new SlideRules();
        pairsDue(x, 100, 100, 1, 0, 100, 100, 0, 1, 0);
        pairsDue(x, 999, 999, 10000, 0, 999, 999, 0, 1, 1);
        pairsDue(x, 300, 330, 10, 1, 320, 330, 2, 10, 4);
        pairsDue(x, 300, 340, 10, 1, 320, 330, 4, 15, 9);
        pairsDue(x, 300, 340, 20, 1, 320, 340, 2, 6, 4);
        pairsDue(x, 320, 340, 20, 1, 320, 340, 2, 3, 3);
        Check.due("another rule", x.rule(100), 10000);
        // 9.99 stands at LONG: both of a pair are PULLED, and 9.98 does too
        pairsDue(x, 999, 999, 1, 898, 999, 999, 898, 1, 2);
        pairsDue(x, 998, 999, 1, 898, 999, 999, 896 + 897 + 898, 3, 6);
        Check.due("as many as 100", x.pairs(100, 199, 1, 4), 5050);
        Check.due("as many as 100, by nines", x.pairs(100, 999, 9, 4), 5050);
    }

    private static void pairsRefused() {
        SlideRules x = new SlideRules();
        Check.due("from 99", x.pairs(99, 200, 10, 0), -2);
        Check.due("to 1000", x.pairs(100, 1000, 10, 0), -2);
        Check.due("from above to", x.pairs(201, 200, 10, 0), -2);
        Check.due("d 0", x.pairs(100, 200, 0, 0), -2);
        Check.due("d -1", x.pairs(100, 200, -1, 0), -2);
        Check.due("d 10001", x.pairs(100, 200, 10001, 0), -2);
        Check.due("101 numbers", x.pairs(100, 200, 1, 0), -2);
        Check.due("101 numbers, to not one", x.pairs(100, 909, 8, 0), -2);
        Check.due("what -1", x.pairs(100, 199, 1, -1), -2);
        Check.due("what 6", x.pairs(100, 199, 1, 6), -2);
        Check.due("one number by 10000", x.pairs(100, 999, 10000, 4), 1);
    }

    /** What PAIRS sums up is what chains of two factors answer, pair by pair. */
    private static void pairsByEveryRule() {
        int[] longs = {100, 333, 10000, 50000};
        for (int steps : longs) {
            SlideRules x = new SlideRules();
            x.rule(steps);
            SlideRules y = new SlideRules();
            y.rule(steps);
            int[] want = {-1, 0, 0, 0, 0, 0};
            for (int a = 137; a <= 990; a += 71) {
                for (int b = a; b <= 990; b += 71) {
                    y.clear();
                    y.factor(a);
                    y.factor(b);
                    int miss = Math.abs(y.chain(3));
                    if (miss > want[0]) {
                        want[0] = miss;
                        want[1] = a;
                        want[2] = b;
                    }
                    want[3] += miss;
                    want[4]++;
                    want[5] += y.chain(4);
                }
            }
            pairsDue(x, 137, 990, 71, want);
            Check.due("pairs leave the chain", x.count(3), 0);
        }
    }
}
