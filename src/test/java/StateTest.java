/** Promises 1, 26, 27: a new object, the counts and the digest; and that what is refused changes nothing. */
public final class StateTest {
    private static final int FAR = SlideRules.FAR;

    public static void main(String[] args) {
        newObject();
        counts();
        digests();
        refusedChangesNothing();
        constants();
        Check.end();
    }

    private static void newObject() {
        SlideRules x = new SlideRules();
        int[] want = {0, 0, 0, 0, 0, 0, 10000};
        for (int what = 0; what < 7; what++) {
            Check.due("new: count(" + what + ")", x.count(what), want[what]);
        }
        Check.due("new: place", x.place(0, 100), FAR);
        Check.due("new: digest", x.digest(), digestOf(want));
        SlideRules y = new SlideRules();
        x.rule(500);
        x.scale(true, 1, 10, false);
        x.off(3);
        x.factor(200);
        x.cut(0, 5);
        Check.due("two objects share nothing", y.digest(), digestOf(want));
    }

    private static void counts() {
        SlideRules x = new SlideRules();
        x.scale(true, 1, 10, false);
        x.scale(false, 1, 10, false);
        x.scale(true, 1, 10, false);
        x.off(-9);
        x.factor(200);
        x.factor(200);
        x.cut(0, 1);
        x.cut(1, 1);
        x.cut(1, 2);
        x.cut(1, 3);
        x.rule(777);
        int[] want = {3, 2, -9, 2, 1, 3, 777};
        for (int what = 0; what < 7; what++) {
            Check.due("count(" + what + ")", x.count(what), want[what]);
        }
        Check.due("count(-1)", x.count(-1), FAR);
        Check.due("count(7)", x.count(7), FAR);
        Check.due("count(max)", x.count(Integer.MAX_VALUE), FAR);
    }

    private static long digestOf(int... values) {
        long h = 349;
        for (int v : values) {
            h = 31 * h + v;
        }
        return h;
    }

    private static void digests() {
        SlideRules x = new SlideRules();
        x.scale(false, 2, 20, true);
        x.scale(true, 1, 10, false);
        x.span(0, 100, 205, 10);
        x.span(0, 300, 300, 7);
        x.span(1, 500, 700, 100);
        x.off(-77);
        x.factor(300);
        x.factor(250);
        x.cut(0, 3);
        x.cut(0, 9);
        x.cut(1, 4);
        Check.due("digest", x.digest(), digestOf(2, 1, -77, 2, 2, 1, 10000,
                0, 2, 20, 1, 100, 205, 10, 300, 300, 7, 10000, 10000 - 880,
                1, 1, 10, 0, 500, 700, 100, 3010, 4771,
                300, 250, 3, 9, 4));
        x.rule(100);
        Check.due("digest by another rule", x.digest(), digestOf(2, 1, -77, 2, 2, 1, 100,
                0, 2, 20, 1, 100, 205, 10, 300, 300, 7, 100, 100 - 9,
                1, 1, 10, 0, 500, 700, 100, 30, 48,
                300, 250, 3, 9, 4));
    }

    private static void refusedChangesNothing() {
        SlideRules x = new SlideRules();
        for (int i = 0; i < 8; i++) {
            x.scale(i % 2 == 0, 1, 10, false);
        }
        x.span(0, 100, 200, 1);
        for (int i = 0; i < 12; i++) {
            x.factor(500);
        }
        for (int i = 0; i < 60; i++) {
            x.cut(0, i);
        }
        long before = x.digest();
        x.rule(99);
        x.scale(true, 1, 10, false);
        x.scale(true, 0, 10, false);
        x.span(0, 200, 300, 1);
        x.span(0, 201, 501, 1);
        x.span(0, 201, 501, 0);
        x.off(200001);
        x.set(1, 200, 0, 300);
        x.set(0, 200, 1, 99);
        x.factor(500);
        x.factor(99);
        x.cut(0, 60);
        x.cut(0, 59);
        x.cut(1, -1);
        x.wipe(2);
        Check.due("digest after what is refused", x.digest(), before);
        x.place(0, 500);
        x.mark(0, 5);
        x.closest(0, 0);
        x.against(0, 200, 1);
        x.nearest(0, 5);
        x.between(0, 5);
        x.chain(1);
        x.pairs(100, 199, 1, 0);
        x.fewest(1, 2, 3);
        x.setting(1, 2, 3, 0);
        x.chosen(0, 5, -1);
        x.match(0);
        x.law(1, 5);
        x.doubled(1);
        Check.due("digest after what only asks", x.digest(), before);
    }

    private static void constants() {
        Check.due("NONE", SlideRules.NONE, -1);
        Check.due("BAD", SlideRules.BAD, -2);
        Check.due("NO", SlideRules.NO, -3);
        Check.due("FULL", SlideRules.FULL, -4);
        Check.due("FAR", SlideRules.FAR, -2000000000);
    }
}
