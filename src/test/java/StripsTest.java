/** Promises 20, 21, 22, 23: STRIPS, CHOSEN places and the CUT of both. */
public final class StripsTest {
    private static final int FAR = SlideRules.FAR;

    public static void main(String[] args) {
        cuts();
        chosenTold();
        matches();
        matchesByCounting();
        Check.end();
    }

    private static void cutAll(SlideRules x, int strip, int... places) {
        for (int place : places) {
            x.cut(strip, place);
        }
    }

    private static void cuts() {
        SlideRules x = new SlideRules();
        Check.due("cut -1", x.cut(0, -1), -2);
        Check.due("cut 1000001", x.cut(0, 1000001), -2);
        Check.due("strip 2", x.cut(2, 5), -2);
        Check.due("strip -1", x.cut(-1, 5), -2);
        Check.due("cut 0", x.cut(0, 0), 1);
        Check.due("cut 0 again", x.cut(0, 0), -2);
        Check.due("cut 5", x.cut(0, 5), 2);
        Check.due("cut 4", x.cut(0, 4), -2);
        Check.due("cut the other", x.cut(1, 4), 1);
        Check.due("cut the last", x.cut(1, 1000000), 2);
        Check.due("cut behind the last", x.cut(1, 1000000), -2);
        for (int i = 3; i <= 60; i++) {
            Check.due("cut " + i, x.cut(0, 10 * i), i);
        }
        Check.due("a 61st", x.cut(0, 601), -4);
        Check.due("a 61st no more than the last", x.cut(0, 600), -2);
        Check.due("count(4)", x.count(4), 60);
        Check.due("count(5)", x.count(5), 2);
        Check.due("wipe(0)", x.wipe(0), 60);
        Check.due("wipe(0) again", x.wipe(0), 0);
        Check.due("wipe(2)", x.wipe(2), -2);
        Check.due("wipe(-1)", x.wipe(-1), -2);
        Check.due("cut 0 after wipe", x.cut(0, 0), 1);
        Check.due("the other stays", x.wipe(1), 2);
    }

    private static void chosenTold() {
        SlideRules x = new SlideRules();
        Check.due("chosen of none", x.chosen(0, 1, -1), 0);
        Check.due("the first of none", x.chosen(0, 1, 0), -1);
        cutAll(x, 1, 2, 3, 6, 7, 10, 100000, 100002, 1000000);
        Check.due("by 1", x.chosen(1, 1, -1), 8);
        Check.due("by 4", x.chosen(1, 4, -1), 5);
        Check.due("by 4: 0", x.chosen(1, 4, 0), 2);
        Check.due("by 4: 1", x.chosen(1, 4, 1), 6);
        Check.due("by 4: 2", x.chosen(1, 4, 2), 10);
        Check.due("by 4: 4", x.chosen(1, 4, 4), 1000000);
        Check.due("by 4: 5", x.chosen(1, 4, 5), -1);
        Check.due("by 100000", x.chosen(1, 100000, -1), 3);
        Check.due("by 100000: 1", x.chosen(1, 100000, 1), 100002);
        Check.due("near 0", x.chosen(1, 0, -1), -2);
        Check.due("near 100001", x.chosen(1, 100001, -1), -2);
        Check.due("what -2", x.chosen(1, 4, -2), -2);
        Check.due("what max", x.chosen(1, 4, Integer.MAX_VALUE), -1);
        Check.due("strip 2", x.chosen(2, 4, -1), -2);
        Check.due("strip -1", x.chosen(-1, 4, -1), -2);
    }

    private static void matches() {
        SlideRules x = new SlideRules();
        Check.due("both empty", x.match(0), FAR);
        x.cut(0, 0);
        Check.due("one empty", x.match(1), FAR);
        Check.due("what 2", x.match(2), FAR);
        x.cut(1, 1000000);
        Check.due("the farthest down", x.match(0), -1000000);
        Check.due("one alike", x.match(1), 1);
        x.wipe(0);
        Check.due("the other empty", x.match(0), FAR);
        x.wipe(1);
        cutAll(x, 0, 10, 30);
        x.cut(1, 20);
        Check.due("of like sizes the one above 0", x.match(0), 10);
        x.cut(0, 35);
        x.cut(1, 25);
        Check.due("two alike", x.match(0), 10);
        Check.due("two alike, how many", x.match(1), 2);
        x.cut(0, 55);
        x.cut(0, 60);
        Check.due("the least size of two alike", x.match(0), 10);
        x.wipe(0);
        cutAll(x, 0, 20, 25, 26);
        Check.due("not moved", x.match(0), 0);
        Check.due("not moved, two", x.match(1), 2);
        Check.due("what -1 of two", x.match(-1), FAR);
        Check.due("what 2 of two", x.match(2), FAR);
    }

    private static void matchesByCounting() {
        long seed = 7;
        for (int round = 0; round < 60; round++) {
            SlideRules x = new SlideRules();
            int[][] rows = new int[2][round % 3 == 0 ? 60 : 5 + round % 20];
            for (int strip = 0; strip < 2; strip++) {
                int place = round % 5 * 100;
                for (int i = 0; i < rows[strip].length; i++) {
                    seed = seed * 6364136223846793005L + 1442695040888963407L;
                    place += 1 + (int) ((seed >>> 33) % (1 + round));
                    rows[strip][i] = place;
                    x.cut(strip, place);
                }
            }
            int bestShift = 0;
            int bestMany = 0;
            for (int size = 0; size <= 5000; size++) {
                for (int sign = 1; sign >= -1; sign -= 2) {
                    int many = alike(rows[0], rows[1], size * sign);
                    if (many > bestMany) {
                        bestMany = many;
                        bestShift = size * sign;
                    }
                }
            }
            Check.due("round " + round + ": match(0)", x.match(0), bestShift);
            Check.due("round " + round + ": match(1)", x.match(1), bestMany);
        }
    }

    private static int alike(int[] first, int[] second, int shift) {
        int many = 0;
        for (int a : first) {
            for (int b : second) {
                many += a == b + shift ? 1 : 0;
            }
        }
        return many;
    }
}
