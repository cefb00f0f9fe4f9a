import java.lang.management.ManagementFactory;

/** All calls of a run live in one room: what an object takes beyond its making and its SCALES is nothing. */
public final class RoomTest {
    public static void main(String[] args) {
        com.sun.management.ThreadMXBean threads =
                (com.sun.management.ThreadMXBean) ManagementFactory.getThreadMXBean();
        long me = Thread.currentThread().getId();
        runCalls(fresh());
        long before = threads.getThreadAllocatedBytes(me);
        SlideRules x = fresh();
        long made = threads.getThreadAllocatedBytes(me);
        runCalls(x);
        long run = threads.getThreadAllocatedBytes(me);
        Check.that("an object with 8 scales takes " + (made - before) + " bytes", made - before < 60000);
        Check.that("500 calls take " + (run - made) + " bytes", run - made < 2000);
        Check.end();
    }

    private static SlideRules fresh() {
        SlideRules x = new SlideRules();
        for (int i = 0; i < 8; i++) {
            x.scale(i % 2 == 0, 1 + i % 3, 10 + i, i > 3);
        }
        return x;
    }

    private static void runCalls(SlideRules x) {
        x.span(0, 100, 499, 1);
        for (int i = 0; i < 60; i++) {
            x.cut(0, i * i);
            x.cut(1, 5 * i);
        }
        for (int i = 0; i < 24; i++) {
            x.rule(10000 + i);
            x.factor(100 + i);
            x.place(1, 54321 + i);
            x.set(0, 200 + i, 1, 300);
            x.against(0, 333, 2 + i % 6);
            x.closest(0, 1);
            x.nearest(0, i);
            x.between(0, 100 * i);
            x.chain(3);
            x.pairs(100, 199, 1, i % 6);
            x.fewest(8, -8, i % 8);
            x.setting(8, -8, i % 8, 5);
            x.chosen(0, 7, -1);
            x.match(0);
            x.doubled(i % 4);
            x.digest();
        }
    }
}
