/** Promises 5, 6, 7, 8: SPANS of MARKS, the MARKS told, and the closest two. */
public final class MarksTest {
    public static void main(String[] args) {
        spansTold();
        spansRefused();
        full();
        closestTwo();
        Check.end();
    }

    private static SlideRules oneScale() {
        SlideRules x = new SlideRules();
        x.scale(false, 1, 10, false);
        return x;
    }

    private static void spansTold() {
        SlideRules x = oneScale();
        Check.due("marks of none", x.marks(0), 0);
        Check.due("mark of none", x.mark(0, 0), -1);
        Check.due("span that ends between", x.span(0, 100, 205, 10), 11);
        Check.due("a span at that end", x.span(0, 205, 300, 10), -3);
        Check.due("a span within", x.span(0, 201, 300, 10), -3);
        Check.due("a span behind that end", x.span(0, 206, 206, 10000), 1);
        Check.due("a span of one step", x.span(0, 207, 10207, 10000), 2);
        Check.due("marks", x.marks(0), 14);
        Check.due("mark 0", x.mark(0, 0), 100);
        Check.due("mark 10", x.mark(0, 10), 200);
        Check.due("mark 11", x.mark(0, 11), 206);
        Check.due("mark 13", x.mark(0, 13), 10207);
        Check.due("mark 14", x.mark(0, 14), -1);
        Check.due("mark max", x.mark(0, Integer.MAX_VALUE), -1);
        Check.due("mark -1", x.mark(0, -1), -2);
        Check.due("mark of no scale", x.mark(1, 0), -2);
        Check.due("marks of no scale", x.marks(1), -2);
        Check.due("marks of scale -1", x.marks(-1), -2);
    }

    private static void spansRefused() {
        SlideRules x = oneScale();
        Check.due("no scale", x.span(1, 100, 200, 1), -2);
        Check.due("scale -1", x.span(-1, 100, 200, 1), -2);
        Check.due("from 99", x.span(0, 99, 200, 1), -2);
        Check.due("to 100001", x.span(0, 100, 100001, 10000), -2);
        Check.due("to max", x.span(0, 100, Integer.MAX_VALUE, 10000), -2);
        Check.due("from above to", x.span(0, 201, 200, 1), -2);
        Check.due("d 0", x.span(0, 100, 200, 0), -2);
        Check.due("d -1", x.span(0, 100, 200, -1), -2);
        Check.due("d 10001", x.span(0, 100, 200, 10001), -2);
        Check.due("nothing changed", x.marks(0), 0);
        Check.due("the ends", x.span(0, 100, 100000, 10000), 10);
        Check.due("behind the last number", x.span(0, 100000, 100000, 1), -3);
        Check.due("bad goes before no", x.span(0, 100, 200, 0), -2);
    }

    private static void full() {
        SlideRules x = oneScale();
        Check.due("401 marks", x.span(0, 100, 500, 1), -4);
        Check.due("399 marks", x.span(0, 100, 498, 1), 399);
        Check.due("two more", x.span(0, 600, 601, 1), -4);
        Check.due("no goes before full", x.span(0, 498, 700, 1), -3);
        Check.due("one more", x.span(0, 600, 600, 1), 1);
        Check.due("one beyond 400", x.span(0, 700, 700, 1), -4);
        Check.due("400 marks", x.marks(0), 400);
        SlideRules y = oneScale();
        for (int i = 0; i < 4; i++) {
            Check.due("span " + i, y.span(0, 100 + i, 100 + i, 5), 1);
        }
        Check.due("a fifth span", y.span(0, 200, 200, 1), -4);
        Check.due("a fifth span too early", y.span(0, 103, 200, 1), -3);
        Check.due("a fifth span, bad", y.span(0, 200, 100, 1), -2);
        Check.due("4 marks", y.marks(0), 4);
    }

    private static void closestTwo() {
        SlideRules x = oneScale();
        Check.due("closest of none", x.closest(0, 0), -1);
        x.span(0, 200, 200, 1);
        Check.due("closest of one", x.closest(0, 0), -1);
        Check.due("closest of one, how near", x.closest(0, 1), -1);
        Check.due("bad goes before none", x.closest(0, 2), -2);
        x.span(0, 300, 300, 1);
        Check.due("closest of two", x.closest(0, 0), 200);
        Check.due("how near", x.closest(0, 1), 1761);
        x.span(0, 400, 600, 100);
        Check.due("closest of five", x.closest(0, 0), 500);
        Check.due("how near of five", x.closest(0, 1), 792);
        x.rule(100);
        Check.due("closest on a shorter rule", x.closest(0, 0), 500);
        Check.due("how near on a shorter rule", x.closest(0, 1), 8);
        Check.due("what -1", x.closest(0, -1), -2);
        Check.due("no scale", x.closest(1, 0), -2);
        SlideRules z = oneScale();
        z.span(0, 200, 400, 200);
        z.span(0, 410, 810, 400);
        Check.due("closest in the middle", z.closest(0, 0), 400);
        Check.due("how near in the middle", z.closest(0, 1), 107);
        SlideRules y = new SlideRules();
        y.scale(true, 1, 10, true);
        y.rule(100);
        y.span(0, 100, 100, 1);
        y.span(0, 101, 102, 1);
        Check.due("turned: places 100, 100, 99: the first of like ones", y.closest(0, 0), 100);
        Check.due("turned: none apart", y.closest(0, 1), 0);
        y.span(0, 900, 902, 1);
        Check.due("the first of like ones stays", y.closest(0, 0), 100);
    }
}
