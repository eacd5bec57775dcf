/** The edges of the terms about days to come, and of promises 17 to 22. */
final class AheadEdges {
    private static final int NONE = -6;
    private static final int UNKNOWN = -1;
    private static final int OUTSIDE = -2;
    private static final long LOST = -1000000000000000000L;
    private static final int SMALL = Integer.MIN_VALUE;
    private static final int BIG = Integer.MAX_VALUE;

    private final Sentences s;

    AheadEdges(Sentences s) {
        this.s = s;
    }

    void all() {
        will();
        sure();
        meet();
        waste();
        days();
        promises();
    }

    private static LentRulers realm(int inch, int... week) {
        LentRulers x = new LentRulers();
        x.inch(inch);
        for (int day = 0; day < week.length; day++) {
            x.week(day, week[day]);
        }
        return x;
    }

    private static LentRulers everyDay(int inch, int more) {
        return realm(inch, more, more, more, more, more, more, more);
    }

    private void will() {
        s.terms("WILL: the INCH behind m more days (0 to 99), by WEEK alone.");
        LentRulers x = everyDay(60, 1);
        s.due("behind -1", x.will(-1), OUTSIDE);
        s.due("behind none", x.will(0), 60);
        s.due("behind one", x.will(1), 61);
        s.due("behind 99", x.will(99), 159);
        s.due("behind 100", x.will(100), OUTSIDE);
        s.due("1 at least", everyDay(9, -9).will(1), 1);
        s.due("1 for good", everyDay(200, -9).will(99), 1);
        s.due("200 at most", everyDay(192, 9).will(1), 200);
        s.due("200 for good", everyDay(1, 9).will(99), 200);
        s.due("held day by day, high", realm(200, 9, -9).will(2), 191);
        s.due("held day by day, low", realm(1, -9, 9).will(2), 10);
        LentRulers y = realm(60, 0, 0, 0, 0, 0, 0, 7);
        Checks.write(y, "......");
        y.done();
        s.due("from day 6 on", y.will(1), 67);
        s.due("behind day 12", y.will(7), 67);
        s.due("behind day 13", y.will(8), 74);
        Checks.write(y, ">9.");
        s.due("not by what is on the PAD", y.will(0), 60);
    }

    private void sure() {
        s.terms("SURE: one buys an inch of CLOTH by the INCH of day i from now, and sells it all by that of day j"
                + " (0 <= i < j <= m, m 1 to 60), parts of inches as well: what he has for his coin at the most:"
                + " a fraction;");
        LentRulers x = everyDay(100, -1);
        s.due("m 0", x.sure(0, 0), LOST - 2);
        s.due("m 61", x.sure(61, 0), LOST - 2);
        s.due("m 1, upper", x.sure(1, 0), 100);
        s.due("m 1, lower", x.sure(1, 1), 99);
        s.due("m 60, upper", x.sure(60, 0), 5);
        s.due("m 60, lower", x.sure(60, 1), 2);
        s.due("i is less than j: a loss at the most, upper", everyDay(60, 9).sure(1, 0), 20);
        s.due("a loss at the most, lower", everyDay(60, 9).sure(1, 1), 23);
        s.due("the same, upper", everyDay(60, 0).sure(60, 0), 1);
        s.due("the same, lower", everyDay(60, 0).sure(60, 1), 1);
        s.due("200 to 1, upper", everyDay(200, -9).sure(60, 0), 200);
        s.due("200 to 1, lower", everyDay(200, -9).sure(60, 1), 1);
        s.due("not bought on day 0, upper", realm(60, 9, -9).sure(2, 0), 23);
        s.due("not bought on day 0, lower", realm(60, 9, -9).sure(2, 1), 20);
        s.terms("i, j of it (100 times i, and j: the least of as much).");
        s.due("m 0", x.when(0), OUTSIDE);
        s.due("m 61", x.when(61), OUTSIDE);
        s.due("m 1", x.when(1), 1);
        s.due("m 59", x.when(59), 59);
        s.due("m 60", x.when(60), 60);
        s.due("all are as much", everyDay(60, 0).when(60), 1);
        s.due("two last days are as much", everyDay(60, -1).when(60), 59);
        s.due("the least i first", realm(60, 0, 0, 0, -9).when(6), 4);
        s.due("the last i", realm(60, 1, 1, 1, 1, 1, 1, -9).when(7), 607);
        s.due("a loss, which is least late", everyDay(60, 1).when(60), 5960);
        s.due("held at 200", everyDay(191, 9).when(60), 102);
        s.due("the same i, the least j", realm(60, 5, -9, 0, 0, 0).when(5), 102);
    }

    private void meet() {
        s.terms("MEET: a bridge of s HAIRS (1 to 99999) is built from now on,");
        LentRulers x = new LentRulers();
        s.due("s 0", x.meet(0, 1, 1, 1, 0), OUTSIDE);
        s.due("s 100000", x.meet(100000, 1, 1, 1, 0), OUTSIDE);
        s.due("s 1", x.meet(1, 0, 1, 1, 0), 1);
        s.due("s 99999", x.meet(99999, 20, 20, 200, 0), 20);
        s.terms("on each day (0 on) by a inches (0 to 20) of the INCH of that day,");
        s.due("a -1", x.meet(1, -1, 1, 1, 0), OUTSIDE);
        s.due("a 21", x.meet(1, 21, 1, 1, 0), OUTSIDE);
        s.due("a 0", x.meet(2, 0, 1, 1, 0), 2);
        s.due("a 20", x.meet(1200, 20, 0, 1, 1), 0);
        LentRulers y = realm(60, 5, -7);
        s.due("day 0", y.meet(60, 1, 0, 1, 1), 0);
        s.due("day 1", y.meet(125, 1, 0, 1, 1), 0);
        s.due("day 2", y.meet(183, 1, 0, 1, 1), 0);
        s.due("day 2 is behind 3", y.meet(183, 1, 0, 1, 0), 3);
        LentRulers late = realm(60, 0, 0, 0, 0, 0, 0, 7);
        Checks.write(late, "......");
        late.done();
        s.due("from day 6 on", late.meet(127, 1, 0, 1, 1), 0);
        s.terms("and by b inches (0 to 20) of r HAIRS (1 to 200):");
        s.due("b -1", x.meet(1, 1, -1, 1, 0), OUTSIDE);
        s.due("b 21", x.meet(1, 1, 21, 1, 0), OUTSIDE);
        s.due("b 0", x.meet(61, 1, 0, 200, 0), 2);
        s.due("b 20", x.meet(4000, 0, 20, 200, 1), 0);
        s.due("r 0", x.meet(1, 1, 1, 0, 0), OUTSIDE);
        s.due("r 201", x.meet(1, 1, 1, 201, 0), OUTSIDE);
        s.due("r 1", x.meet(61, 1, 1, 1, 0), 1);
        s.due("r 200", x.meet(260, 1, 1, 200, 0), 1);
        s.due("r 200, a hair more", x.meet(261, 1, 1, 200, 0), 2);
        s.due("r is not by WEEK", everyDay(60, 9).meet(50, 0, 5, 1, 0), 10);
        meetEnds(x);
    }

    private void meetEnds(LentRulers x) {
        s.terms("behind how many days both together are s or more (1 to 99; NONE: not by then);");
        s.due("behind one", x.meet(60, 1, 0, 1, 0), 1);
        s.due("behind two", x.meet(61, 1, 0, 1, 0), 2);
        s.due("behind 98", x.meet(98, 0, 1, 1, 0), 98);
        s.due("behind 99", x.meet(99, 0, 1, 1, 0), 99);
        s.due("not by then", x.meet(100, 0, 1, 1, 0), NONE);
        s.due("behind 99 by the INCH", everyDay(1, 1).meet(99 * 50, 1, 0, 1, 0), 99);
        s.due("not by then by the INCH", everyDay(1, 1).meet(99 * 50 + 1, 1, 0, 1, 0), NONE);
        s.due("nobody builds", x.meet(1, 0, 0, 200, 0), NONE);
        s.terms("how much too long it is then.");
        s.due("just", x.meet(60, 1, 0, 1, 1), 0);
        s.due("59", x.meet(1, 1, 0, 1, 1), 59);
        s.due("the most", everyDay(200, 0).meet(1, 20, 20, 200, 1), 7999);
        s.due("behind 99, just", x.meet(99, 0, 1, 1, 1), 0);
        s.due("not by then", x.meet(100, 0, 1, 1, 1), NONE);
        s.due("nobody builds", x.meet(1, 0, 0, 200, 1), NONE);
    }

    private void waste() {
        s.terms("WASTE: of a STICK pieces of p inches, and of q inches (1 to 20 each) of the INCH are cut:"
                + " the least that is left over;");
        LentRulers x = new LentRulers();
        x.inch(1);
        s.due("a STICK of 0", x.waste(0, 1, 20, 0), 0);
        x.stick(0, 39);
        s.due("p 0", x.waste(0, 0, 1, 0), OUTSIDE);
        s.due("p 21", x.waste(0, 21, 1, 0), OUTSIDE);
        s.due("q 0", x.waste(0, 1, 0, 0), OUTSIDE);
        s.due("q 21", x.waste(0, 1, 21, 0), OUTSIDE);
        s.due("p 20, q 19", x.waste(0, 20, 19, 0), 0);
        s.due("p 19, q 20", x.waste(0, 19, 20, 0), 0);
        s.due("p 20, q 20", x.waste(0, 20, 20, 0), 19);
        s.due("p 1, q 20", x.waste(0, 1, 20, 0), 0);
        s.due("p 20, q 1", x.waste(0, 20, 1, 0), 0);
        x.stick(0, 19);
        s.due("too short for any", x.waste(0, 20, 20, 0), 19);
        x.stick(0, 20);
        s.due("just one", x.waste(0, 20, 20, 0), 0);
        x.stick(7, 1800);
        x.inch(200);
        s.due("nine inches of 200", x.waste(7, 9, 20, 0), 0);
        s.due("ten inches of 200 are too long", x.waste(7, 10, 20, 0), 1800);
        x.one(0, 0, 0, 7);
        s.due("not by a RULER", x.waste(7, 2, 3, 0), 0);
        x.stick(7, 1799);
        s.due("a hair is missing", x.waste(7, 9, 20, 0), 1799);
        s.due("a hair is missing for two pieces", x.waste(7, 2, 7, 0), 199);
        fewest();
    }

    private void fewest() {
        s.terms("how many of p inches, the fewest for it.");
        LentRulers x = new LentRulers();
        x.inch(1);
        s.due("a STICK of 0", x.waste(0, 1, 20, 1), 0);
        x.stick(0, 24);
        s.due("by q alone, not 3 or 6 of p", x.waste(0, 4, 6, 1), 0);
        s.due("two of p", x.waste(0, 12, 20, 1), 2);
        s.due("alike, by q", x.waste(0, 20, 20, 1), 0);
        x.stick(0, 40);
        s.due("two of 20", x.waste(0, 20, 19, 1), 2);
        x.stick(0, 39);
        s.due("one of 20", x.waste(0, 20, 19, 1), 1);
        s.due("19 of 1", x.waste(0, 1, 20, 1), 19);
        s.due("none of 20", x.waste(0, 20, 1, 1), 0);
        x.stick(0, 1800);
        s.due("alike and none left, by q", x.waste(0, 20, 20, 1), 0);
        s.due("14 of 20 and 80 of 19", x.waste(0, 20, 19, 1), 14);
    }

    private void days() {
        s.terms("DAYS: of days 0 to m (0 to 60) from now r (1 to 10, m and 1 at most) are taken");
        LentRulers x = everyDay(60, 1);
        s.due("m -1", x.days(-1, 1, 0), OUTSIDE);
        s.due("m 61", x.days(61, 1, 0), OUTSIDE);
        s.due("m 0", x.days(0, 1, 0), 0);
        s.due("m 0, two days", x.days(0, 2, 0), OUTSIDE);
        s.due("m 8, nine days", x.days(8, 9, 0), 8);
        s.due("m 8, ten days", x.days(8, 10, 0), OUTSIDE);
        s.due("m 9, ten days", x.days(9, 10, 0), 9);
        s.due("m 60, ten days", x.days(60, 10, 0), 9);
        s.due("m 60, eleven days", x.days(60, 11, 0), OUTSIDE);
        s.due("r 0", x.days(60, 0, 0), OUTSIDE);
        s.due("r -1", x.days(60, -1, 0), OUTSIDE);
        s.due("m BIG", x.days(BIG, 1, 0), OUTSIDE);
        s.due("m SMALL", x.days(SMALL, 1, 0), OUTSIDE);
        s.terms("so that the greatest INCH on these is least above the least one: by how much;");
        s.due("one day", realm(60, 9, -9).days(60, 1, 0), 0);
        s.due("from 1 to 200", everyDay(191, 9).days(1, 2, 0), 9);
        s.due("any two, not side by side", realm(60, 9, -9).days(2, 2, 0), 0);
        s.due("up to the day ahead of the last", realm(60, 5, 4, -4).days(2, 2, 0), 4);
        s.due("the last day as well", realm(60, 5, 4, -4).days(3, 2, 0), 0);
        s.due("held at 1", everyDay(9, -9).days(10, 10, 0), 0);
        s.due("nine at 1, one at 9", everyDay(9, -9).days(9, 10, 0), 8);
        s.terms("the first of these days in the first such set (by rows of rising days).");
        s.due("one day", realm(60, 9, -9).days(60, 1, 1), 0);
        s.due("one day of one", realm(60, 9, -9).days(0, 1, 1), 0);
        s.due("the first of many", everyDay(60, 1).days(60, 10, 1), 0);
        s.due("days 1 and 3", realm(60, 5, 4, -4).days(3, 2, 1), 1);
        s.due("two sets, the first", realm(60, 9, -9, 9, -9, 0, 0, 0).days(3, 2, 1), 0);
        s.due("the last two", everyDay(100, -9).days(12, 2, 1), 11);
        // Held at 1 from day 51 on: 200 less 7 weeks of 28, less 1, less 9.
        LentRulers y = realm(200, -1, -9, -3, -3, -4, -4, -4);
        s.due("ten days from day 51 on", y.days(60, 10, 0), 0);
        s.due("the first of them", y.days(60, 10, 1), 51);
        s.due("a day less", y.days(59, 10, 0), 2);
        s.due("a day less, the first", y.days(59, 10, 1), 50);
    }

    // ---- promises 17 to 22

    private void promises() {
        promises17To19();
        promises20To22();
    }

    private void promises17To19() {
        s.promise(17, "WILL. OUTSIDE.");
        LentRulers x = everyDay(60, 1);
        s.due("-1", x.will(-1), OUTSIDE);
        s.due("0", x.will(0), 60);
        s.due("99", x.will(99), 159);
        s.due("100", x.will(100), OUTSIDE);
        s.due("SMALL", x.will(SMALL), OUTSIDE);
        s.due("BIG", x.will(BIG), OUTSIDE);
        s.due("nothing changes", x.told(1), 60);
        s.due("no day goes", x.told(2), 0);
        s.promise(18, "SURE. OUTSIDE.");
        s.due("m 0", x.sure(0, 0), LOST - 2);
        s.due("m 61", x.sure(61, 0), LOST - 2);
        s.due("m 1, upper", x.sure(1, 0), 60);
        s.due("m 1, lower", x.sure(1, 1), 61);
        s.due("m 60, upper", x.sure(60, 0), 119);
        s.due("m 60, lower", x.sure(60, 1), 120);
        s.due("part -1", x.sure(1, -1), LOST - 2);
        s.due("part 2", x.sure(60, 2), LOST - 2);
        s.due("both", x.sure(0, 2), LOST - 2);
        s.promise(19, "SURE: 100 times i, and j. OUTSIDE.");
        s.due("m 0", x.when(0), OUTSIDE);
        s.due("m 1", x.when(1), 1);
        s.due("m 60", x.when(60), 5960);
        s.due("m 61", x.when(61), OUTSIDE);
        s.due("m SMALL", x.when(SMALL), OUTSIDE);
        s.due("m BIG", x.when(BIG), OUTSIDE);
    }

    private void promises20To22() {
        LentRulers x = new LentRulers();
        s.promise(20, "MEET: days (what = 0), how much too long (1); NONE. OUTSIDE.");
        s.due("days", x.meet(100, 1, 0, 1, 0), 2);
        s.due("too long", x.meet(100, 1, 0, 1, 1), 20);
        s.due("NONE, days", x.meet(100, 0, 0, 1, 0), NONE);
        s.due("NONE, too long", x.meet(100, 0, 0, 1, 1), NONE);
        s.due("what -1", x.meet(100, 1, 0, 1, -1), OUTSIDE);
        s.due("what 2", x.meet(100, 1, 0, 1, 2), OUTSIDE);
        s.due("r is looked at where nobody uses it", x.meet(100, 1, 0, 0, 0), OUTSIDE);
        s.promise(21, "WASTE: what is left over (what = 0), how many (1). UNKNOWN; OUTSIDE.");
        x.stick(7, 100);
        s.due("left over", x.waste(7, 1, 2, 0), 40);
        s.due("how many", x.waste(7, 1, 2, 1), 1);
        s.due("what -1", x.waste(7, 1, 2, -1), OUTSIDE);
        s.due("what 2", x.waste(7, 1, 2, 2), OUTSIDE);
        s.due("stick -1", x.waste(-1, 1, 2, 0), UNKNOWN);
        s.due("stick 8", x.waste(8, 1, 2, 0), UNKNOWN);
        s.due("UNKNOWN ahead of OUTSIDE", x.waste(8, 0, 21, 2), UNKNOWN);
        s.promise(22, "DAYS: by how much (what = 0), the first (1). OUTSIDE.");
        LentRulers y = realm(60, 5, 4, -4);
        s.due("by how much", y.days(2, 2, 0), 4);
        s.due("the first", y.days(2, 2, 1), 1);
        s.due("what -1", y.days(2, 2, -1), OUTSIDE);
        s.due("what 2", y.days(2, 2, 2), OUTSIDE);
        s.due("r is more than the days", y.days(2, 4, 0), OUTSIDE);
        s.due("r is all of the days", y.days(2, 3, 0), 9);
    }
}
