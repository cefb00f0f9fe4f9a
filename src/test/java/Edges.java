/** For the tests of edges: calls on an object whose state is looked at before and behind. */
final class Edges {
    static final int NONE = -1, BAD = -2, NO = -3, FULL = -4, FAR = -2000000000;
    static final int MIN = Integer.MIN_VALUE, MAX = Integer.MAX_VALUE;

    interface Call {
        long on(SlideRules x);
    }

    private Edges() {
    }

    /** All that an object holds, in one number: its digest, and the MARKS of its SCALES one by one. */
    static long state(SlideRules x) {
        long h = x.digest();
        for (int scale = 0; scale < x.count(0); scale++) {
            h = 31 * h + x.marks(scale);
            for (int i = 0; i < x.marks(scale); i++) {
                h = 31 * h + x.mark(scale, i);
            }
        }
        return h;
    }

    /** The call answers want and leaves the object as it was. */
    static void leaves(SlideRules x, String call, long want, Call made) {
        long before = state(x);
        Check.due(call, made.on(x), want);
        Check.due(call + ", and changed something: its state", state(x), before);
    }

    /** A new object with as many plain SCALES, on the BODY and on the SLIDE by turns. */
    static SlideRules withScales(int many) {
        SlideRules x = new SlideRules();
        for (int i = 0; i < many; i++) {
            x.scale(i % 2 == 1, 1, 10, false);
        }
        return x;
    }

    /** A new object with one SCALE that has these MARKS, none or one SPAN for each. */
    static SlideRules withMarks(boolean turned, int... numbers) {
        SlideRules x = new SlideRules();
        x.scale(true, 1, 10, turned);
        for (int v : numbers) {
            x.span(0, v, v, 1);
        }
        return x;
    }
}
