/** Promises 24, 25: RULERS of laws and their doubles. */
public final class LawsTest {
    public static void main(String[] args) {
        placesTold();
        halves();
        doublesTold();
        everyLaw();
        refused();
        Check.end();
    }

    private static long number(int law, long v) {
        long[] all = {v * v, v * v * v, 1000000 / v, v * (v + 1) / 2};
        return all[law];
    }

    private static void placesTold() {
        SlideRules x = new SlideRules();
        for (int law = 0; law < 4; law++) {
            Check.due("first of law " + law, x.law(law, law == 2 ? 60 : 1), 0);
            Check.due("last of law " + law, x.law(law, law == 2 ? 1 : 60), 10000);
        }
        Check.due("square of 30", x.law(0, 30), 2498);
        Check.due("cube of 59", x.law(1, 59), 9508);
        Check.due("a third", x.law(2, 3), 3220);
        Check.due("triangle of 7", x.law(3, 7), 148);
        x.rule(50000);
        Check.due("cube of 59 on a longer rule", x.law(1, 59), 47541);
        Check.due("a half on a longer rule", x.law(2, 2), 24576);
    }

    /** Only the parts can stand on a half step: what their last number has above their first is even. */
    private static void halves() {
        SlideRules x = new SlideRules();
        x.rule(44697);
        Check.due("299 and a half", x.law(2, 43), 300);
        Check.due("275 and a half", x.law(2, 44), 276);
        x.rule(44696);
        Check.due("a little less", x.law(2, 43), 299);
        x.rule(915);
        Check.due("triangle of 2, 1.0006 steps", x.law(3, 2), 1);
        Check.due("triangle of 3, 2.5014 steps", x.law(3, 3), 3);
    }

    private static void doublesTold() {
        SlideRules x = new SlideRules();
        Check.due("doubled(0)", x.doubled(0), 90);
        Check.due("doubled(2)", x.doubled(2), 139);
        Check.due("doubled(3)", x.doubled(3), 84);
        x.rule(3599);
        Check.due("doubled(0) on 3599", x.doubled(0), 97);
    }

    private static void everyLaw() {
        int[] longs = {100, 101, 118, 1829, 3598, 3600, 7198, 10000, 44697, 49999, 50000};
        for (int steps : longs) {
            SlideRules x = new SlideRules();
            x.rule(steps);
            for (int law = 0; law < 4; law++) {
                long[] ends = {number(law, 1), number(law, 60)};
                long first = Math.min(ends[0], ends[1]);
                long wide = Math.abs(ends[1] - ends[0]);
                int[] places = new int[61];
                for (int v = 1; v <= 60; v++) {
                    long twice = 2 * (number(law, v) - first) * steps;
                    int p = 0;
                    while (wide * (2L * p + 1) <= twice) {
                        p++;
                    }
                    places[v] = p;
                    Check.due("LONG " + steps + ": law(" + law + ", " + v + ")", x.law(law, v), p);
                }
                Check.due("LONG " + steps + ": doubled(" + law + ")", x.doubled(law), doubles(places));
            }
        }
    }

    private static int doubles(int[] places) {
        int many = 0;
        for (int v = 1; v <= 60; v++) {
            for (int w = v + 1; w <= 60; w++) {
                boolean found = false;
                for (int u = 1; u <= 60; u++) {
                    found |= places[u] == places[v] + places[w];
                }
                many += found ? 1 : 0;
            }
        }
        return many;
    }

    private static void refused() {
        SlideRules x = new SlideRules();
        Check.due("law -1", x.law(-1, 5), -2);
        Check.due("law 4", x.law(4, 5), -2);
        for (int law = 0; law < 4; law++) {
            Check.due("v 0 of law " + law, x.law(law, 0), -2);
        }
        Check.due("v 61", x.law(2, 61), -2);
        Check.due("v min", x.law(2, Integer.MIN_VALUE), -2);
        Check.due("doubled -1", x.doubled(-1), -2);
        Check.due("doubled 4", x.doubled(4), -2);
    }
}
