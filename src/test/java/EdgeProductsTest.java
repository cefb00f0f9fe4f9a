/** Every call with every mixture of its edges, on objects new, in use and full, held against the model. */
public final class EdgeProductsTest {
    private static final int CALLS_OF_ONE = 300;
    private static final int[] SCALES = {Edges.MIN, -1, 0, 1, 3, 4, 7, 8, Edges.MAX};
    private static final int[] NUMBERS = {Edges.MIN, 0, 99, 100, 101, 999, 1000, 99999, 100000, 100001, Edges.MAX};
    private static final int[] PLACES = {Edges.MIN, -1000001, -1000000, -1, 0, 1, 3010, 10000, 1000000, 1000001,
        Edges.MAX};
    private static final int[] EACH = {Edges.MIN, -1, 0, 1, 2, 9999, 10000, 10001, Edges.MAX};
    private static final int[] WHATS = {Edges.MIN, -3, -2, -1, 0, 1, 2, 3, 4, 5, 6, 7, Edges.MAX};
    private static final int[] POWERS = {Edges.MIN, -9, -8, -7, 0, 1, 8, 9, Edges.MAX};
    private static final int[] SOME_POWERS = {-9, -8, 0, 5, 8, 9};
    private static final int[] FACTORS = {Edges.MIN, 99, 100, 101, 500, 998, 999, 1000, Edges.MAX};
    private static final int[] STRIPS = {Edges.MIN, -1, 0, 1, 2, Edges.MAX};

    interface Made {
        long on(SlideRules x, int[] a);
    }

    interface Due {
        long by(Model y, int[] a);
    }

    public static void main(String[] args) {
        for (int kind = 0; kind < 4; kind++) {
            ofScales(kind);
            ofTheSlide(kind);
            ofChains(kind);
            ofSettings(kind);
            ofStripsAndLaws(kind);
        }
        Check.end();
    }

    private static void ofScales(int kind) {
        all(kind, "rule", (x, a) -> x.rule(a[0]), (y, a) -> y.rule(a[0]),
                new int[] {Edges.MIN, -1, 0, 99, 100, 101, 49999, 50000, 50001, Edges.MAX});
        int[] flags = {0, 1};
        all(kind, "scale", (x, a) -> x.scale(a[0] == 1, a[1], a[2], a[3] == 1),
                (y, a) -> y.scale(a[0] == 1, a[1], a[2], a[3] == 1), flags, new int[] {Edges.MIN, 0, 1, 2, 3, 4, Edges.MAX},
                new int[] {Edges.MIN, 9, 10, 11, 100, 989, 990, 991, Edges.MAX}, flags);
        all(kind, "place", (x, a) -> x.place(a[0], a[1]), (y, a) -> y.place(a[0], a[1]), SCALES, NUMBERS);
        all(kind, "span", (x, a) -> x.span(a[0], a[1], a[2], a[3]), (y, a) -> y.span(a[0], a[1], a[2], a[3]),
                SCALES, NUMBERS, NUMBERS, EACH);
        all(kind, "span at its edge", (x, a) -> x.span(a[0], a[1], a[1] + a[2], a[3]),
                (y, a) -> y.span(a[0], a[1], a[1] + a[2], a[3]), new int[] {0, 1},
                new int[] {100, 109, 110, 498, 499, 500, 501, 800, 9000},
                new int[] {-1, 0, 1, 99, 100, 398, 399, 400}, new int[] {1, 2, 100});
        all(kind, "mark", (x, a) -> x.mark(a[0], a[1]), (y, a) -> y.mark(a[0], a[1]), SCALES,
                new int[] {Edges.MIN, -1, 0, 1, 3, 4, 398, 399, 400, Edges.MAX});
        all(kind, "marks", (x, a) -> x.marks(a[0]), (y, a) -> y.marks(a[0]), SCALES);
        all(kind, "closest", (x, a) -> x.closest(a[0], a[1]), (y, a) -> y.closest(a[0], a[1]), SCALES, WHATS);
    }

    private static void ofTheSlide(int kind) {
        all(kind, "off", (x, a) -> x.off(a[0]), (y, a) -> y.off(a[0]),
                new int[] {Edges.MIN, -200001, -200000, -1, 0, 1, 200000, 200001, Edges.MAX});
        all(kind, "set", (x, a) -> x.set(a[0], a[1], a[2], a[3]), (y, a) -> y.set(a[0], a[1], a[2], a[3]),
                SCALES, NUMBERS, SCALES, NUMBERS);
        all(kind, "against", (x, a) -> x.against(a[0], a[1], a[2]), (y, a) -> y.against(a[0], a[1], a[2]),
                SCALES, NUMBERS, SCALES);
        all(kind, "nearest", (x, a) -> x.nearest(a[0], a[1]), (y, a) -> y.nearest(a[0], a[1]), SCALES, PLACES);
        all(kind, "between", (x, a) -> x.between(a[0], a[1]), (y, a) -> y.between(a[0], a[1]), SCALES, PLACES);
    }

    private static void ofChains(int kind) {
        all(kind, "factor", (x, a) -> x.factor(a[0]), (y, a) -> y.factor(a[0]), FACTORS);
        all(kind, "clear", (x, a) -> x.clear(), (y, a) -> y.clear(), new int[] {0, 1});
        all(kind, "chain", (x, a) -> x.factor(a[0]) + 10000L * x.chain(a[1]),
                (y, a) -> y.factor(a[0]) + 10000L * y.chain(a[1]), FACTORS, WHATS);
        all(kind, "pairs", (x, a) -> x.pairs(a[0], a[1], a[2], a[3]), (y, a) -> y.pairs(a[0], a[1], a[2], a[3]),
                FACTORS, FACTORS, new int[] {Edges.MIN, -1, 0, 1, 150, 10000, 10001, Edges.MAX}, WHATS);
    }

    private static void ofSettings(int kind) {
        all(kind, "fewest", (x, a) -> x.fewest(a[0], a[1], a[2]), (y, a) -> y.fewest(a[0], a[1], a[2]),
                POWERS, POWERS, POWERS);
        all(kind, "setting", (x, a) -> x.setting(a[0], a[1], a[2], a[3]),
                (y, a) -> y.setting(a[0], a[1], a[2], a[3]), SOME_POWERS, SOME_POWERS, SOME_POWERS,
                new int[] {Edges.MIN, -1, 0, 1, 8, 23, 24, Edges.MAX});
    }

    private static void ofStripsAndLaws(int kind) {
        all(kind, "cut", (x, a) -> x.cut(a[0], a[1]), (y, a) -> y.cut(a[0], a[1]), STRIPS,
                new int[] {Edges.MIN, -1, 0, 1, 8, 9, 58, 59, 60, 999999, 1000000, 1000001, Edges.MAX});
        all(kind, "wipe", (x, a) -> x.wipe(a[0]), (y, a) -> y.wipe(a[0]), STRIPS);
        all(kind, "chosen", (x, a) -> x.chosen(a[0], a[1], a[2]), (y, a) -> y.chosen(a[0], a[1], a[2]), STRIPS,
                new int[] {Edges.MIN, 0, 1, 2, 9, 99999, 100000, 100001, Edges.MAX},
                new int[] {Edges.MIN, -3, -2, -1, 0, 1, 2, 58, 59, 60, Edges.MAX});
        all(kind, "match", (x, a) -> x.cut(a[0], a[1]) + 10L * x.match(a[2]),
                (y, a) -> y.cut(a[0], a[1]) + 10L * y.match(a[2]), STRIPS, new int[] {3, 60, 1000000}, WHATS);
        all(kind, "law", (x, a) -> x.law(a[0], a[1]), (y, a) -> y.law(a[0], a[1]), WHATS,
                new int[] {Edges.MIN, -1, 0, 1, 2, 30, 59, 60, 61, Edges.MAX});
        all(kind, "doubled", (x, a) -> x.doubled(a[0]), (y, a) -> y.doubled(a[0]), WHATS);
        all(kind, "count", (x, a) -> x.count(a[0]), (y, a) -> y.count(a[0]), WHATS);
    }

    /** 0: new; 1: in use; 2: in use on the shortest RULE; 3: full. */
    private static void prepare(int kind, SlideRules x, Model y) {
        int scales = kind == 0 ? 0 : kind == 3 ? 8 : 4;
        for (int i = 0; i < scales; i++) {
            Check.due("prepare", x.scale(i % 2 == 1, 1 + i % 3, 10 + 45 * i, i > 1), y.scale(i % 2 == 1, 1 + i % 3, 10 + 45 * i, i > 1));
            int to = kind == 3 ? 499 : 100 + 3 * i;
            Check.due("prepare", x.span(i, 100, to, 1), y.span(i, 100, to, 1));
        }
        if (kind == 2) {
            Check.due("prepare", x.rule(100), y.rule(100));
        }
        int factors = kind == 3 ? 12 : 2 * kind;
        for (int i = 0; i < factors; i++) {
            Check.due("prepare", x.factor(999 - i), y.factor(999 - i));
        }
        int places = kind == 3 ? 60 : kind == 0 ? 0 : 3;
        for (int i = 0; i < places; i++) {
            Check.due("prepare", x.cut(0, i), y.cut(0, i));
            Check.due("prepare", x.cut(1, 3 * i), y.cut(1, 3 * i));
        }
    }

    private static void all(int kind, String name, Made made, Due due, int[]... values) {
        SlideRules x = null;
        Model y = null;
        int many = 1;
        for (int[] row : values) {
            many *= row.length;
        }
        int[] a = new int[values.length];
        for (int number = 0; number < many && Check.wrongSoFar() < 20; number++) {
            if (number % CALLS_OF_ONE == 0) {
                x = new SlideRules();
                y = new Model();
                prepare(kind, x, y);
            }
            int rest = number;
            for (int i = values.length - 1; i >= 0; i--) {
                a[i] = values[i][rest % values[i].length];
                rest /= values[i].length;
            }
            String call = "kind " + kind + ": " + name + java.util.Arrays.toString(a);
            Check.due(call, made.on(x, a), due.by(y, a));
            Check.due(call + ": digest", x.digest(), y.digest());
        }
    }
}
