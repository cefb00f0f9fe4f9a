import java.util.Arrays;

/** Promises 18, 19: the FEWEST settings and the first row of them. */
public final class SettingsTest {
    public static void main(String[] args) {
        noSlide();
        rowsTold();
        turnedAlone();
        beyondPowers();
        firstOfAllRows();
        refused();
        Check.end();
    }

    private static void row(SlideRules x, int e0, int e1, int e2, int... want) {
        String goal = e0 + ", " + e1 + ", " + e2;
        Check.due("fewest(" + goal + ")", x.fewest(e0, e1, e2), want.length);
        for (int i = 0; i < want.length; i++) {
            Check.due("setting(" + goal + ", " + i + ")", x.setting(e0, e1, e2, i), want[i]);
        }
        Check.due("setting(" + goal + ") behind all", x.setting(e0, e1, e2, want.length), -1);
        Check.due("setting(" + goal + ") max", x.setting(e0, e1, e2, Integer.MAX_VALUE), -1);
    }

    private static void none(SlideRules x, int e0, int e1, int e2) {
        Check.due("fewest of none", x.fewest(e0, e1, e2), -1);
        Check.due("setting of none", x.setting(e0, e1, e2, 0), -1);
    }

    private static void noSlide() {
        SlideRules x = new SlideRules();
        x.scale(false, 1, 10, false);
        row(x, 0, 0, 0);
        none(x, 1, 0, 0);
        none(x, 0, 0, -1);
    }

    private static void rowsTold() {
        SlideRules x = new SlideRules();
        x.scale(true, 1, 10, false);
        row(x, 3, 0, -1, 1, 1, 1, 121);
        row(x, -1, 2, 0, 11, 11, 101);
        x.scale(true, 2, 20, false);
        row(x, 3, 0, -1, 1, 2, 121);
        row(x, 8, 8, 8, 2, 2, 2, 2, 12, 12, 12, 12, 22, 22, 22, 22);
        row(x, -3, 1, 2, 11, 22, 101, 102);
        x.scale(true, 3, 20, false);
        row(x, 4, 0, 0, 1, 3);
        row(x, -8, 0, 0, 102, 103, 103);
        row(x, 8, -7, 5, 2, 3, 3, 22, 23, 111, 113, 113);
    }

    private static void turnedAlone() {
        SlideRules x = new SlideRules();
        x.scale(true, 2, 20, true);
        none(x, 2, 0, 0);
        none(x, -4, 0, -1);
        row(x, -4, 0, -2, 102, 102, 122);
        x.scale(true, 3, 10, false);
        row(x, 1, 0, 0, 3, 102);
        row(x, 0, 2, 0, 13, 13, 112, 112);
        x.scale(true, 2, 10, false);
        row(x, 0, 2, 0, 12);
        SlideRules y = new SlideRules();
        y.scale(true, 3, 10, true);
        y.scale(false, 1, 10, false);
        none(y, 1, 0, 0);
        none(y, -4, 0, 0);
        row(y, 0, 0, -6, 123, 123);
    }

    /** Only the powers told are -8 .. 8: on the way 9 and more may be, where the first row goes there. */
    private static void beyondPowers() {
        SlideRules x = new SlideRules();
        x.scale(true, 3, 10, false);
        x.scale(true, 1, 10, true);
        row(x, 8, 0, 0, 3, 3, 3, 101);
        row(x, 0, 7, 0, 13, 13, 13, 111, 111);
        row(x, 0, 1, 7, 13, 23, 23, 23, 111, 111, 121, 121);
        row(x, -8, 0, 0, 101, 101, 103, 103);
        SlideRules y = new SlideRules();
        y.scale(true, 3, 10, false);
        y.scale(true, 2, 10, true);
        row(y, 8, 0, -8, 3, 3, 3, 3, 102, 102, 122, 123, 123);
        SlideRules z = new SlideRules();
        z.scale(true, 2, 10, false);
        z.scale(true, 3, 10, true);
        row(z, 7, 0, 0, 2, 2, 2, 2, 2, 103);
        row(z, 0, 0, -7, 122, 122, 123);
    }

    /** With every kind of SLIDE the row is the first of all rows, tried one by one in the order of their codes. */
    private static void firstOfAllRows() {
        for (int kind = 1; kind < 27; kind++) {
            int[] sorts = {kind % 3, kind / 3 % 3, kind / 9};
            SlideRules x = new SlideRules();
            int[] codes = new int[18];
            int many = 0;
            for (int sort = 0; sort < 2; sort++) {
                for (int k = 0; k < 3; k++) {
                    for (int s = 1; s <= 3; s++) {
                        if (sorts[s - 1] == 1 || sorts[s - 1] == 2 && sort == 1) {
                            codes[many] = 100 * sort + 10 * k + s;
                            many++;
                        }
                    }
                }
            }
            for (int s = 1; s <= 3; s++) {
                if (sorts[s - 1] > 0) {
                    x.scale(true, s, 10, sorts[s - 1] == 2);
                }
            }
            codes = Arrays.copyOf(codes, many);
            holdAgainstAllRows(x, codes, 1, -1, 0);
            holdAgainstAllRows(x, codes, 0, 1, 2);
            holdAgainstAllRows(x, codes, 2, 0, -2);
            holdAgainstAllRows(x, codes, 4, 0, 0);
            holdAgainstAllRows(x, codes, 0, 7, 0);
            holdAgainstAllRows(x, codes, 0, -3, -4);
            holdAgainstAllRows(x, codes, 0, 0, 8);
        }
    }

    private static void holdAgainstAllRows(SlideRules x, int[] codes, int e0, int e1, int e2) {
        int many = x.fewest(e0, e1, e2);
        for (int length = 0; length <= Math.min(5, many < 0 ? 5 : many); length++) {
            int[] tried = new int[length];
            if (findRow(codes, tried, 0, new int[] {e0, e1, e2})) {
                row(x, e0, e1, e2, tried);
                return;
            }
        }
        Check.that("fewest(" + e0 + ", " + e1 + ", " + e2 + ") is " + many, many < 0 || many > 5);
    }

    private static boolean findRow(int[] codes, int[] tried, int at, int[] left) {
        if (at == tried.length) {
            return left[0] == 0 && left[1] == 0 && left[2] == 0;
        }
        if (Math.abs(left[0]) + Math.abs(left[1]) + Math.abs(left[2]) > 3 * (tried.length - at)) {
            return false;
        }
        for (int code : codes) {
            int by = code < 100 ? code % 10 : -(code % 10);
            tried[at] = code;
            left[code / 10 % 10] -= by;
            boolean found = findRow(codes, tried, at + 1, left);
            left[code / 10 % 10] += by;
            if (found) {
                return true;
            }
        }
        return false;
    }

    private static void refused() {
        SlideRules x = new SlideRules();
        x.scale(true, 1, 10, false);
        Check.due("e0 9", x.fewest(9, 0, 0), -2);
        Check.due("e1 -9", x.fewest(0, -9, 0), -2);
        Check.due("e2 max", x.fewest(0, 0, Integer.MAX_VALUE), -2);
        Check.due("setting e0 -9", x.setting(-9, 0, 0, 0), -2);
        Check.due("setting e1 9", x.setting(0, 9, 0, 0), -2);
        Check.due("setting e2 min", x.setting(0, 0, Integer.MIN_VALUE, 0), -2);
        Check.due("setting i -1", x.setting(1, 0, 0, -1), -2);
        Check.due("setting i -1 of none", x.setting(0, 0, 0, -1), -2);
        Check.due("24 settings", x.fewest(8, -8, 8), 24);
        Check.due("the last of 24", x.setting(8, -8, 8, 23), 111);
    }
}
