/** Many runs of 512 calls, each answer held against the model's; the same runs each time. */
public final class RandomRunsTest {
    private static final int RUNS = 300, CALLS = 512, METHODS = 25;
    private static final int[] EDGES = {
        -2147483648, -1000001, -1000000, -200001, -200000, -9, -8, -2, -1, 0, 1, 2, 3, 4, 7, 8, 9, 10, 59, 60, 61, 99,
        100, 101, 200, 300, 990, 991, 999, 1000, 10000, 10001, 50000, 50001, 99999, 100000, 100001, 200000, 1000000,
        1000001, 2147483647,
    };

    private static long seed;

    private static int below(int n) {
        seed = seed * 6364136223846793005L + 1442695040888963407L;
        return (int) ((seed >>> 33) % n);
    }

    /** A number from low to high for the most part; now and then an edge of any kind. */
    private static int any(int low, int high) {
        int kind = below(40);
        if (kind == 0) {
            return EDGES[below(EDGES.length)];
        }
        if (kind == 1) {
            return low - 1 + below(2) * (high - low + 2);
        }
        if (kind < 6) {
            return below(2) == 0 ? low : high;
        }
        return low + below(high - low + 1);
    }

    private static int number() {
        return below(3) == 0 ? any(100, 1000) : any(100, 100000);
    }

    private static int rodOf(Model y) {
        int many = y.count(0);
        return many == 0 ? any(0, 7) : any(0, many - 1);
    }

    public static void main(String[] args) {
        for (int run = 0; run < RUNS && Check.wrongSoFar() < 20; run++) {
            seed = 1000003L * run + 17;
            SlideRules x = new SlideRules();
            Model y = new Model();
            int liking = below(METHODS);
            for (int call = 0; call < CALLS / 2 && Check.wrongSoFar() < 20; call++) {
                int method = below(4) == 0 ? liking : below(METHODS);
                makeCall(x, y, method, "run " + run + ", call " + call + ": ");
                Check.due("run " + run + ", behind call " + call + ": digest", x.digest(), y.digest());
            }
        }
        Check.end();
    }

    private static void makeCall(SlideRules x, Model y, int method, String at) {
        if (method < 13) {
            callOnScales(x, y, method, at);
        } else {
            callOnRest(x, y, method, at);
        }
    }

    private static void callOnScales(SlideRules x, Model y, int method, String at) {
        int s = rodOf(y);
        int t = rodOf(y);
        int v = number();
        int w = number();
        switch (method) {
            case 0: {
                int steps = below(3) == 0 ? any(100, 50000) : 100 + below(120);
                Check.due(at + "rule(" + steps + ")", x.rule(steps), y.rule(steps));
                break;
            }
            case 1: {
                boolean slide = below(2) == 0;
                int q = any(1, 3);
                int fold = below(2) == 0 ? 10 : any(10, 990);
                boolean turned = below(3) == 0;
                Check.due(at + "scale", x.scale(slide, q, fold, turned), y.scale(slide, q, fold, turned));
                break;
            }
            case 2:
                Check.due(at + "place(" + s + ", " + v + ")", x.place(s, v), y.place(s, v));
                break;
            case 3: {
                int from = below(3) == 0 ? v : any(100, 1000) + 300 * below(4);
                int to = below(20) == 0 ? w : from + below(below(2) == 0 ? 40 : 600);
                int d = below(10) == 0 ? any(1, 10000) : 1 + below(20);
                String call = at + "span(" + s + ", " + from + ", " + to + ", " + d + ")";
                Check.due(call, x.span(s, from, to, d), y.span(s, from, to, d));
                break;
            }
            case 4: {
                int i = any(0, 60);
                Check.due(at + "mark(" + s + ", " + i + ")", x.mark(s, i), y.mark(s, i));
                break;
            }
            case 5:
                Check.due(at + "marks(" + s + ")", x.marks(s), y.marks(s));
                break;
            case 6: {
                int what = any(0, 1);
                Check.due(at + "closest(" + s + ", " + what + ")", x.closest(s, what), y.closest(s, what));
                break;
            }
            case 7: {
                int off = any(-200000, 200000);
                Check.due(at + "off(" + off + ")", x.off(off), y.off(off));
                break;
            }
            case 8: {
                String call = at + "set(" + s + ", " + v + ", " + t + ", " + w + ")";
                Check.due(call, x.set(s, v, t, w), y.set(s, v, t, w));
                break;
            }
            case 9:
                Check.due(at + "against(" + s + ", " + v + ", " + t + ")", x.against(s, v, t), y.against(s, v, t));
                break;
            default: {
                int p = placeNear(y, s, v);
                if (method == 10) {
                    Check.due(at + "nearest(" + s + ", " + p + ")", x.nearest(s, p), y.nearest(s, p));
                } else {
                    Check.due(at + "between(" + s + ", " + p + ")", x.between(s, p), y.between(s, p));
                }
                break;
            }
        }
    }

    private static int placeNear(Model y, int s, int v) {
        int many = y.marks(s);
        if (below(5) == 0 || many < 1) {
            return any(-1000000, 1000000);
        }
        int p = y.place(s, y.mark(s, below(many)));
        return p - 3 + below(7) + (below(3) == 0 ? below(40) : 0);
    }

    private static void callOnRest(SlideRules x, Model y, int method, String at) {
        int e0 = any(-8, 8);
        int e1 = any(-8, 8);
        int e2 = any(-8, 8);
        switch (method) {
            case 13: {
                int v = any(100, 999);
                Check.due(at + "factor(" + v + ")", x.factor(v), y.factor(v));
                break;
            }
            case 14:
                if (below(3) == 0) {
                    Check.due(at + "clear", x.clear(), y.clear());
                }
                break;
            case 15: {
                int what = any(0, 4);
                Check.due(at + "chain(" + what + ")", x.chain(what), y.chain(what));
                break;
            }
            case 16: {
                int from = any(100, 999);
                int d = below(5) == 0 ? any(1, 10000) : 1 + below(90);
                int to = below(10) == 0 ? any(100, 999) : Math.min(999L, from + (long) d * below(12)) < 0 ? 0
                        : (int) Math.min(999L, from + (long) d * below(12));
                int what = any(0, 5);
                String call = at + "pairs(" + from + ", " + to + ", " + d + ", " + what + ")";
                Check.due(call, x.pairs(from, to, d, what), y.pairs(from, to, d, what));
                break;
            }
            case 17:
                if (below(4) == 0) {
                    String call = at + "fewest(" + e0 + ", " + e1 + ", " + e2 + ")";
                    Check.due(call, x.fewest(e0, e1, e2), y.fewest(e0, e1, e2));
                }
                break;
            case 18:
                if (below(2) == 0) {
                    int i = any(0, 9);
                    String call = at + "setting(" + e0 + ", " + e1 + ", " + e2 + ", " + i + ")";
                    Check.due(call, x.setting(e0, e1, e2, i), y.setting(e0, e1, e2, i));
                }
                break;
            default:
                callOnStrips(x, y, method, at);
                break;
        }
    }

    private static void callOnStrips(SlideRules x, Model y, int method, String at) {
        int strip = any(0, 1);
        switch (method) {
            case 19:
                for (int i = 0; i < 4; i++) {
                    int place = below(10) == 0 ? any(0, 1000000) : y.count(strip == 1 ? 5 : 4) * 9 + below(20);
                    Check.due(at + "cut(" + strip + ", " + place + ")", x.cut(strip, place), y.cut(strip, place));
                }
                break;
            case 20:
                if (below(4) == 0) {
                    Check.due(at + "wipe(" + strip + ")", x.wipe(strip), y.wipe(strip));
                }
                break;
            case 21: {
                int near = below(5) == 0 ? any(1, 100000) : 1 + below(40);
                int what = any(-1, 20);
                String call = at + "chosen(" + strip + ", " + near + ", " + what + ")";
                Check.due(call, x.chosen(strip, near, what), y.chosen(strip, near, what));
                break;
            }
            case 22: {
                int what = any(0, 1);
                Check.due(at + "match(" + what + ")", x.match(what), y.match(what));
                break;
            }
            case 23: {
                int law = any(0, 3);
                int v = any(1, 60);
                Check.due(at + "law(" + law + ", " + v + ")", x.law(law, v), y.law(law, v));
                Check.due(at + "doubled(" + law + ")", x.doubled(law), y.doubled(law));
                break;
            }
            default: {
                int what = any(0, 6);
                Check.due(at + "count(" + what + ")", x.count(what), y.count(what));
                break;
            }
        }
    }
}
