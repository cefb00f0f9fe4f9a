/** Promises 9, 10, 11, 12, 13: the SLIDE, AGAINST, NEAREST and BETWEEN. */
public final class SlideTest {
    private static final int FAR = SlideRules.FAR;

    public static void main(String[] args) {
        offs();
        sets();
        againsts();
        nearests();
        betweens();
        turnedBetweens();
        Check.end();
    }

    private static SlideRules scales() {
        SlideRules x = new SlideRules();
        x.scale(false, 1, 10, false);
        x.scale(true, 1, 10, false);
        x.scale(true, 1, 10, true);
        x.scale(false, 2, 10, false);
        return x;
    }

    private static void offs() {
        SlideRules x = new SlideRules();
        Check.due("off(200000)", x.off(200000), 0);
        Check.due("off(200001)", x.off(200001), FAR);
        Check.due("off(-200001)", x.off(-200001), FAR);
        Check.due("off(min)", x.off(Integer.MIN_VALUE), FAR);
        Check.due("off(-200000)", x.off(-200000), 200000);
        Check.due("count(2)", x.count(2), -200000);
        x.rule(500);
        Check.due("a rule leaves off", x.off(7), -200000);
    }

    private static void sets() {
        SlideRules x = scales();
        Check.due("2 against 3", x.set(1, 200, 0, 300), 1761);
        Check.due("off", x.count(2), 1761);
        Check.due("1 of the turned against 3 of the halves", x.set(2, 100, 3, 300), 2386 - 10000);
        Check.due("a body's scale as the slide's", x.set(0, 200, 0, 300), FAR);
        Check.due("a slide's scale as the body's", x.set(1, 200, 2, 300), FAR);
        Check.due("both the other way", x.set(0, 200, 1, 300), FAR);
        Check.due("no such slide", x.set(4, 200, 0, 300), FAR);
        Check.due("no such body", x.set(1, 200, -1, 300), FAR);
        Check.due("u 99", x.set(1, 99, 0, 300), FAR);
        Check.due("w 100001", x.set(1, 200, 0, 100001), FAR);
        Check.due("off as it was", x.count(2), 2386 - 10000);
        SlideRules y = new SlideRules();
        y.scale(false, 1, 990, true);
        y.scale(true, 1, 10, true);
        y.rule(50000);
        Check.due("beyond what off takes", y.set(1, 100000, 0, 100), 50000 + 99782 + 100000);
        Check.due("off beyond", y.count(2), 249782);
    }

    private static void againsts() {
        SlideRules x = scales();
        x.off(1761);
        Check.due("slide on body", x.against(1, 400, 0), 7782);
        Check.due("body on slide", x.against(0, 300, 1), 3010);
        Check.due("slide on slide", x.against(1, 300, 2), 4771);
        Check.due("body on body", x.against(0, 300, 3), 4771);
        Check.due("turned slide on body", x.against(2, 200, 3), 6990 + 1761);
        Check.due("on itself", x.against(2, 200, 2), 6990);
        Check.due("no scale", x.against(4, 200, 0), FAR);
        Check.due("no other", x.against(0, 200, 4), FAR);
        Check.due("other -1", x.against(0, 200, -1), FAR);
        Check.due("v 99", x.against(0, 99, 1), FAR);
        Check.due("v 100001", x.against(0, 100001, 1), FAR);
    }

    private static void nearests() {
        SlideRules x = scales();
        Check.due("no marks", x.nearest(0, 0), -1);
        Check.due("no marks, bad", x.nearest(0, 1000001), -2);
        x.span(0, 100, 300, 100);
        Check.due("at 2", x.nearest(0, 3010), 200);
        Check.due("below all", x.nearest(0, -1000000), 100);
        Check.due("above all", x.nearest(0, 1000000), 300);
        Check.due("midway, of like ones the least", x.nearest(0, 1505), 100);
        Check.due("a step beyond midway", x.nearest(0, 1506), 200);
        Check.due("place -1000001", x.nearest(0, -1000001), -2);
        Check.due("no scale", x.nearest(4, 0), -2);
        x.rule(100);
        Check.due("on a shorter rule", x.nearest(0, 15), 100);
        Check.due("on a shorter rule, beyond", x.nearest(0, 16), 200);
        x.span(2, 990, 999, 1);
        Check.due("turned, many at one place: the least number", x.nearest(2, 0), 990);
        x.span(0, 990, 999, 1);
        Check.due("many at one place: the least number", x.nearest(0, 100), 990);
        x.scale(true, 1, 20, true);
        x.span(4, 100, 300, 100);
        Check.due("folded, turned", x.nearest(4, 101), 200);
        Check.due("folded, turned, below", x.nearest(4, 90), 300);
    }

    private static void betweens() {
        SlideRules x = scales();
        Check.due("no marks", x.between(0, 0), -1);
        x.span(0, 200, 200, 1);
        Check.due("one mark", x.between(0, 3010), -1);
        x.span(0, 300, 400, 50);
        Check.due("at the first end", x.between(0, 3010), 200);
        Check.due("below the first end", x.between(0, 3009), -1);
        Check.due("at the next end, by the first two", x.between(0, 4771), 300);
        Check.due("within, cut down", x.between(0, 3100), 205);
        Check.due("within the second two", x.between(0, 5000), 317);
        Check.due("at the last end", x.between(0, 6021), 400);
        Check.due("above the last end", x.between(0, 6022), -1);
        Check.due("place 1000000", x.between(0, 1000000), -1);
        Check.due("place 1000001", x.between(0, 1000001), -2);
        Check.due("place -1000001", x.between(0, -1000001), -2);
        Check.due("no scale", x.between(-1, 0), -2);
        SlideRules y = scales();
        y.rule(100);
        y.span(0, 100, 103, 1);
        Check.due("places 0, 0, 1, 1: unlike ones alone", y.between(0, 0), 101);
        Check.due("the end of unlike ones", y.between(0, 1), 102);
        SlideRules z = scales();
        z.rule(50000);
        z.span(0, 100, 100, 1);
        z.span(0, 100000, 100000, 1);
        Check.due("far between two", z.between(0, 149999), 100 + (int) (99900L * 149999 / 150000));
    }

    private static void turnedBetweens() {
        SlideRules x = scales();
        x.span(2, 200, 400, 100);
        Check.due("turned, at the first end", x.between(2, 6990), 200);
        Check.due("turned, above the first end", x.between(2, 6991), -1);
        Check.due("turned, a step within", x.between(2, 6989), 200);
        Check.due("turned, within", x.between(2, 6900), 205);
        Check.due("turned, at the next end", x.between(2, 5229), 300);
        Check.due("turned, at the last end", x.between(2, 3979), 400);
        Check.due("turned, below the last end", x.between(2, 3978), -1);
        x.rule(20000);
        Check.due("turned, on a longer rule", x.between(2, 13979), 200);
    }
}
