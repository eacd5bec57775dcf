import java.lang.management.ManagementFactory;

/** What a run makes stays small: an object is some kilobytes, and its calls make nothing. */
final class RoomTest {
    private static final int MOST_BYTES_AN_OBJECT = 16000;
    private static final int MOST_BYTES_A_RUN = 4000;

    public static void main(String[] args) {
        Checks checks = new Checks("RoomTest");
        calls(new LentRulers());
        long before = allocated();
        LentRulers x = new LentRulers();
        long made = allocated();
        int sum = calls(x);
        long after = allocated();
        checks.holds("an object is small: " + (made - before), made - before < MOST_BYTES_AN_OBJECT);
        checks.holds("calls make nothing: " + (after - made), after - made < MOST_BYTES_A_RUN);
        checks.holds("answers were used", sum != 0);
        checks.end();
    }

    private static long allocated() {
        com.sun.management.ThreadMXBean threads =
                (com.sun.management.ThreadMXBean) ManagementFactory.getThreadMXBean();
        return threads.getThreadAllocatedBytes(Thread.currentThread().getId());
    }

    /** Each call of the face, the dearest with their greatest arguments. */
    private static int calls(LentRulers x) {
        int sum = 0;
        for (int i = 0; i < 10; i++) {
            sum += x.inch(1) + x.week(i % 7, 3) + x.one(i % 6, 9, 9, 9) + x.stick(i % 8, 1800) + x.bridge(i % 4, 600);
            sum += x.say('.') + x.fault() + x.judge(0) + x.behind(0, 0) + x.lies(0) + x.built(0, 2) + x.then(3);
            sum += x.will(99) + x.when(60) + x.meet(99999, 1, 1, 1, 0) + x.waste(i % 8, 1, 1, 0) + x.days(60, 10, 1);
            sum += x.fits(-1) + x.fits(3799) + x.ask(0) + x.ask(1) + x.seen(i, 60) + x.ask(0) + x.forget();
            sum += x.settle(0, 99) + x.settled() + x.halves(200, 9, 1) + x.year(i, 99, 2);
            sum += (int) (x.inches(0, 0, 0) + x.sure(60, 1) + x.shake(12, 3, 3, 4, 1));
            sum += x.image(i % 2) + x.restore(i % 2) + x.told(43) + x.done() + x.wipe();
        }
        return sum;
    }
}
