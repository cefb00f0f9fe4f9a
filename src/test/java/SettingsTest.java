/** Promises 18, 19: the FEWEST settings and the first row of them. */
public final class SettingsTest {
    public static void main(String[] args) {
        noSlide();
        rowsTold();
        turnedAlone();
        withinPowers();
        refused();
        Check.end();
    }

    private static void row(SlideRules x, int e0, int e1, int e2, int... want) {
        String goal = e0 + ", " + e1 + ", " + e2;
        Check.due("fewest(" + goal + ")", x.fewest(e0, e1, e2), want.length);
        for (int i = 0; i < want.length; i++) {
            Check.due("setting(" + goal + ", " + i + ")", x.setting(e0, e1, e2, i), want[i]);
        }
        Check.due("setting(" + goal + ") behind all", x.setting(e0, e1, e2, want.length), -1);
        Check.due("setting(" + goal + ") max", x.setting(e0, e1, e2, Integer.MAX_VALUE), -1);
    }

    private static void none(SlideRules x, int e0, int e1, int e2) {
        Check.due("fewest of none", x.fewest(e0, e1, e2), -1);
        Check.due("setting of none", x.setting(e0, e1, e2, 0), -1);
    }

    private static void noSlide() {
        SlideRules x = new SlideRules();
        x.scale(false, 1, 10, false);
        row(x, 0, 0, 0);
        none(x, 1, 0, 0);
        none(x, 0, 0, -1);
    }

    private static void rowsTold() {
        SlideRules x = new SlideRules();
        x.scale(true, 1, 10, false);
        row(x, 3, 0, -1, 1, 1, 1, 121);
        row(x, -1, 2, 0, 11, 11, 101);
        x.scale(true, 2, 20, false);
        row(x, 3, 0, -1, 1, 2, 121);
        row(x, 8, 8, 8, 2, 2, 2, 2, 12, 12, 12, 12, 22, 22, 22, 22);
        row(x, -3, 1, 2, 11, 22, 101, 102);
        x.scale(true, 3, 20, false);
        row(x, 4, 0, 0, 1, 3);
        row(x, -8, 0, 0, 102, 103, 103);
        row(x, 8, -7, 5, 2, 3, 3, 22, 23, 111, 113, 113);
    }

    private static void turnedAlone() {
        SlideRules x = new SlideRules();
        x.scale(true, 2, 20, true);
        none(x, 2, 0, 0);
        none(x, -4, 0, -1);
        row(x, -4, 0, -2, 102, 102, 122);
        x.scale(true, 3, 10, false);
        row(x, 1, 0, 0, 3, 102);
        row(x, 0, 2, 0, 13, 13, 112, 112);
        x.scale(true, 2, 10, false);
        row(x, 0, 2, 0, 12);
        SlideRules y = new SlideRules();
        y.scale(true, 3, 10, true);
        y.scale(false, 1, 10, false);
        none(y, 1, 0, 0);
        none(y, -4, 0, 0);
        row(y, 0, 0, -6, 123, 123);
    }

    /** Powers are -8 .. 8 on the way, too: at 6 three more would be 9. */
    private static void withinPowers() {
        SlideRules x = new SlideRules();
        x.scale(true, 3, 10, false);
        x.scale(true, 1, 10, true);
        row(x, 8, 0, 0, 3, 3, 101, 3);
        row(x, 0, 7, 0, 13, 13, 111, 13, 111);
        row(x, -8, 0, 0, 101, 101, 103, 103);
    }

    private static void refused() {
        SlideRules x = new SlideRules();
        x.scale(true, 1, 10, false);
        Check.due("e0 9", x.fewest(9, 0, 0), -2);
        Check.due("e1 -9", x.fewest(0, -9, 0), -2);
        Check.due("e2 max", x.fewest(0, 0, Integer.MAX_VALUE), -2);
        Check.due("setting e0 -9", x.setting(-9, 0, 0, 0), -2);
        Check.due("setting e1 9", x.setting(0, 9, 0, 0), -2);
        Check.due("setting e2 min", x.setting(0, 0, Integer.MIN_VALUE, 0), -2);
        Check.due("setting i -1", x.setting(1, 0, 0, -1), -2);
        Check.due("setting i -1 of none", x.setting(0, 0, 0, -1), -2);
        Check.due("24 settings", x.fewest(8, -8, 8), 24);
        Check.due("the last of 24", x.setting(8, -8, 8, 23), 111);
    }
}
