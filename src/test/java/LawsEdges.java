/** The edges of the terms about laws, means, turns and shakes, and of promises 23 to 30. */
final class LawsEdges {
    private static final int NONE = -6;
    private static final int UNKNOWN = -1;
    private static final int OUTSIDE = -2;
    private static final int FULL = -4;
    private static final long LOST = -1000000000000000000L;
    private static final int SMALL = Integer.MIN_VALUE;
    private static final int BIG = Integer.MAX_VALUE;

    private final Sentences s;

    LawsEdges(Sentences s) {
        this.s = s;
    }

    void all() {
        laws();
        sights();
        fits();
        ask();
        settle();
        halves();
        shake();
        promises();
    }

    /** With these sights: day, inch, day, inch .. */
    private static LentRulers seeing(int... sights) {
        LentRulers x = new LentRulers();
        for (int i = 0; i + 1 < sights.length; i += 2) {
            x.seen(sights[i], sights[i + 1]);
        }
        return x;
    }

    private static LentRulers ring(int... rulers) {
        LentRulers x = new LentRulers();
        for (int one = 0; one < rulers.length; one++) {
            x.one(one, 0, 0, rulers[one]);
        }
        return x;
    }

    // ---- laws

    private void laws() {
        s.terms("LAWS: on day d (0 to 60) the inch was a + b times d (a 1 to 200, b -9 to 9; the same all times),"
                + " 1 at least, 200 at most.");
        LentRulers x = new LentRulers();
        s.due("how many there are", x.fits(-1), 200 * 19);
        s.due("the first: a 1, b -9", x.fits(0), 100);
        s.due("b 9 at a 1", x.fits(18), 118);
        s.due("a 2, b -9", x.fits(19), 200);
        s.due("the last: a 200, b 9", x.fits(3799), 20018);
        s.due("day -1", x.seen(-1, 9), OUTSIDE);
        s.due("day 61", x.seen(61, 9), OUTSIDE);
        s.due("on day 0 it is a", seeing(0, 77).fits(-1), 19);
        s.due("on day 60: b 2 at a 1", seeing(0, 1, 60, 121).fits(0), 111);
        s.due("no other", seeing(0, 1, 60, 121).fits(-1), 1);
        s.due("b 9", seeing(0, 1, 1, 10).fits(0), 118);
        s.due("b 10 is none", seeing(0, 1, 1, 11).fits(-1), 0);
        s.due("b -9", seeing(0, 200, 1, 191).fits(0), 20000);
        s.due("b -10 is none", seeing(0, 200, 1, 190).fits(-1), 0);
        s.due("a 0 and b 1 are none, so a 9 and b 0 are first", seeing(9, 9).fits(0), 909);
        s.due("1 at least: a 5, b -4 and less", seeing(0, 5, 1, 1).fits(-1), 6);
        s.due("2 is not held", seeing(0, 5, 1, 2).fits(-1), 1);
        s.due("200 at most: a 196, b 4 and more", seeing(0, 196, 1, 200).fits(-1), 6);
        s.due("199 is not held", seeing(0, 196, 1, 199).fits(-1), 1);
        s.due("held for good, low", seeing(0, 5, 1, 1, 60, 1).fits(-1), 6);
        s.due("held for good, high", seeing(0, 196, 1, 200, 60, 200).fits(-1), 6);
        // b -9 to -4 by all of a; b -3 by a 1 to 181, -2 to 121, -1 to 61, 0 by 1 alone.
        s.due("1 on day 60", seeing(60, 1).fits(-1), 1200 + 181 + 121 + 61 + 1);
        s.due("200 on day 60", seeing(60, 200).fits(-1), 1200 + 181 + 121 + 61 + 1);
        s.due("the inch of now does not matter", x.inch(1) + x.fits(-1), 60 + 3800);
    }

    private void sights() {
        s.terms("SIGHTS, 8 at most: a day, and what the inch was (1 to 200).");
        LentRulers x = new LentRulers();
        s.due("none at first", x.told(3), 0);
        s.due("0", x.seen(0, 0), OUTSIDE);
        s.due("201", x.seen(0, 201), OUTSIDE);
        s.due("1", x.seen(60, 1), 1);
        s.due("200", x.seen(0, 200), 2);
        for (int i = 3; i <= 8; i++) {
            s.due("the same once more", x.seen(0, 200), i);
        }
        s.due("the ninth", x.seen(0, 200), FULL);
        s.due("eight", x.told(3), 8);
        s.due("the eighth counts", seeing(0, 9, 0, 9, 0, 9, 0, 9, 0, 9, 0, 9, 0, 9, 0, 8).fits(-1), 0);
        s.due("the ninth does not", seeing(0, 9, 0, 9, 0, 9, 0, 9, 0, 9, 0, 9, 0, 9, 0, 9, 0, 8).fits(-1), 19);
    }

    private void fits() {
        s.terms("FITS: LAWS by which all SIGHTS are so: how many; the i-th (100 times a, and b, and 9; rising).");
        s.due("no SIGHTS", new LentRulers().fits(-1), 3800);
        LentRulers x = seeing(1, 5);
        s.due("how many", x.fits(-1), 14);
        for (int i = 0; i < 14; i++) {
            s.due("a " + (1 + i), x.fits(i), 100 * (1 + i) + (4 - i) + 9);
        }
        s.due("one too many", x.fits(14), NONE);
        s.due("two alike", seeing(1, 5, 1, 5).fits(-1), 14);
        s.due("two that can not both be", seeing(1, 5, 1, 6).fits(-1), 0);
        s.due("the first of none", seeing(1, 5, 1, 6).fits(0), NONE);
        s.due("all, the first contradicts", seeing(1, 6, 1, 5, 1, 5).fits(-1), 0);
        LentRulers y = seeing(1, 200);
        // a 191 by b 9; a 192 by b 8 and 9, and so on: rising by a, then by b.
        s.due("by a", y.fits(0), 19118);
        s.due("then by b", y.fits(1), 19217);
        s.due("then by b, the next", y.fits(2), 19218);
        s.due("the last", y.fits(y.fits(-1) - 1), 20018);
    }

    private void ask() {
        s.terms("ASK: the day to ask about next, so that, whatever it was, fewest of these are left at the most:"
                + " the least; how many.");
        LentRulers x = new LentRulers();
        s.due("no SIGHTS, the day", x.ask(0), 0);
        s.due("no SIGHTS, how many", x.ask(1), 19);
        s.due("one LAW, the day", seeing(0, 60, 1, 63).ask(0), 0);
        s.due("one LAW, how many", seeing(0, 60, 1, 63).ask(1), 1);
        s.due("day 1 tells, the day", seeing(0, 60).ask(0), 1);
        s.due("day 1 tells, how many", seeing(0, 60).ask(1), 1);
        s.due("day 0 tells, the day", seeing(60, 60).ask(0), 0);
        s.due("day 0 tells, how many", seeing(60, 60).ask(1), 1);
        s.due("no day tells, the least", seeing(0, 200, 1, 200).ask(0), 0);
        s.due("no day tells, how many", seeing(0, 200, 1, 200).ask(1), 10);
        s.due("held at 1, the day", seeing(0, 5).ask(0), 1);
        s.due("held at 1, how many", seeing(0, 5).ask(1), 6);
        s.due("held at 200, the day", seeing(0, 196).ask(0), 1);
        s.due("held at 200, how many", seeing(0, 196).ask(1), 6);
        s.due("two are left, and can be told apart, the day", seeing(0, 60, 18, 200).ask(0), 1);
        s.due("two are left, and can be told apart, how many", seeing(0, 60, 18, 200).ask(1), 1);
        s.due("all at 2 on day 0, the day", seeing(0, 2).ask(0), 1);
        s.due("all at 2 on day 0, how many", seeing(0, 2).ask(1), 9);
        s.due("all at 199 on day 0, the day", seeing(0, 199).ask(0), 1);
        s.due("all at 199 on day 0, how many", seeing(0, 199).ask(1), 9);
        s.due("no LAW, the day", seeing(0, 60, 1, 70).ask(0), NONE);
        s.due("no LAW, how many", seeing(0, 60, 1, 70).ask(1), NONE);
    }

    // ---- means

    private void settle() {
        ringOfOnes();
        s.terms("each time each takes the mean of his MEASURE and of those beside him (cut), all at once:");
        s.due("62 among 60 is cut", ring(0, 62).settle(1, 1), 60);
        s.due("63 among 60 is not", ring(0, 63).settle(1, 1), 61);
        s.due("58 among 60 is cut", ring(0, 58).settle(1, 1), 59);
        s.due("the INCH of who has none", ring(1, 0, 1, 1, 1, 1).settle(1, 1), 20);
        s.due("all at once: 1 has not what 0 has taken", ring(60, 3, 3, 3, 3, 3).settle(1, 1), 22);
        s.due("all at once: 2 has nothing of it yet", ring(60, 3, 3, 3, 3, 3).settle(2, 1), 3);
        s.due("all at once: 5 has not what 0 has taken", ring(60, 3, 3, 3, 3, 3).settle(5, 1), 22);
        s.due("all the most", ring(200, 200, 200, 200, 200, 200).settle(0, 99), 200);
        s.due("all the least", ring(1, 1, 1, 1, 1, 1).settle(0, 99), 1);
        s.terms("what a ONE has behind n times (0 to 99);");
        LentRulers x = ring(200, 1, 1, 1, 1, 1);
        s.due("-1", x.settle(0, -1), OUTSIDE);
        s.due("0", x.settle(0, 0), 200);
        s.due("1", x.settle(0, 1), 67);
        s.due("99, where it has settled", x.settle(0, 99), x.settle(3, 98));
        s.due("100", x.settle(0, 100), OUTSIDE);
        s.due("nobody's RULER is changed", x.told(42), 200);
        s.terms("behind how many times nothing changes any more.");
        s.due("never anything", new LentRulers().settled(), 0);
        s.due("once", ring(61).settled(), 1);
        s.due("three times", ring(63).settled(), 3);
        s.due("still behind three", ring(63).settle(0, 3), 60);
        s.due("not behind two", ring(63).settle(0, 2), 61);
        LentRulers y = ring(200, 1, 200, 1, 200, 1);
        // 67 and 133 by turns, then 111 and 89, 96 and 103, 100 and 98, 98 and 99, and 98 alone.
        s.due("by turns", y.settle(0, 1), 67);
        s.due("by turns, the next", y.settle(1, 1), 133);
        s.due("by turns, behind five", y.settle(1, 5), 99);
        s.due("by turns, behind six", y.settle(1, 6), 98);
        s.due("by turns, times", y.settled(), 6);
    }

    private void ringOfOnes() {
        s.terms("SETTLE: all six ONES stand in a ring (0 beside 5 and 1, and so on);");
        for (int one = 0; one < 6; one++) {
            int[] rulers = {60, 60, 60, 60, 60, 60};
            rulers[one] = 90;
            LentRulers x = ring(rulers);
            for (int other = 0; other < 6; other++) {
                int apart = Math.min(Math.abs(one - other), 6 - Math.abs(one - other));
                s.due(other + " by " + one, x.settle(other, 1), apart <= 1 ? 70 : 60);
            }
        }
        s.due("there is no -1", new LentRulers().settle(-1, 0), UNKNOWN);
        s.due("there is no 6", new LentRulers().settle(6, 0), UNKNOWN);
    }

    // ---- turns

    private void halves() {
        s.terms("HALVES: of a stick of n HAIRS (0 to 200) two by turns cut off 1 to k (1 to 9),"
                + " or halve it (cut; if there is something of it);");
        LentRulers x = new LentRulers();
        s.due("n -1", x.halves(-1, 1, 0), OUTSIDE);
        s.due("n 201", x.halves(201, 1, 0), OUTSIDE);
        s.due("n 200, k 9", x.halves(200, 9, 1), 8);
        s.due("k 0", x.halves(9, 0, 0), OUTSIDE);
        s.due("k 10", x.halves(9, 10, 0), OUTSIDE);
        s.due("k 1: 2 can not all be cut off", x.halves(2, 1, 0), 0);
        s.due("k 2: 2 can all be cut off", x.halves(2, 2, 1), 2);
        s.due("k 9: 9 can all be cut off", x.halves(9, 9, 1), 9);
        s.due("k 9: 10 can not", x.halves(10, 9, 0), 0);
        s.due("no more than there is", x.halves(1, 9, 1), 0);
        s.due("a half is cut: 5 to 2", x.halves(5, 1, 1), 0);
        s.due("nothing can not be halved", x.halves(0, 9, 0), 0);
        s.terms("who can not has lost:");
        s.due("who has nothing", x.halves(0, 1, 0), 0);
        s.due("who leaves nothing has won", x.halves(1, 1, 0), 1);
        s.terms("whether who begins can win (1, 0);");
        int[] byOne = {0, 1, 0, 1, 1, 1, 0, 1};
        for (int n = 0; n < byOne.length; n++) {
            s.due("k 1, n " + n, x.halves(n, 1, 0), byOne[n]);
        }
        s.terms("how many he cuts off first for it, the least, 0: he halves it (NONE: he can not).");
        int[] firstByOne = {NONE, 0, NONE, 1, 0, 0, NONE, 1};
        for (int n = 0; n < firstByOne.length; n++) {
            s.due("k 1, n " + n, x.halves(n, 1, 1), firstByOne[n]);
        }
        s.due("to halve is less than to cut off 1", x.halves(1, 9, 1), 0);
        // k 2: 0, 3 and 8 have lost; of 7 a half is 3, of 4 and 5 are 1 and 2 cut off.
        s.due("k 2, n 3", x.halves(3, 2, 1), NONE);
        s.due("k 2, n 4", x.halves(4, 2, 1), 1);
        s.due("k 2, n 5", x.halves(5, 2, 1), 2);
        s.due("k 2, n 6", x.halves(6, 2, 1), 0);
        s.due("k 2, n 7", x.halves(7, 2, 1), 0);
        s.due("k 2, n 8", x.halves(8, 2, 1), NONE);
    }

    // ---- shakes

    private void shake() {
        s.terms("SHAKE: each of n days (0 to 12) an inch is 1 less with a tenths, 1 more with b tenths"
                + " (0 to 10, both together 10 at most), else the same:");
        LentRulers x = new LentRulers();
        s.due("n -1", x.shake(-1, 1, 1, 0, 0), LOST - 2);
        s.due("n 13", x.shake(13, 1, 1, 0, 0), LOST - 2);
        chance("n 0, not off", x, 0, 5, 5, 0, 1, 1);
        chance("n 0, off by 1", x, 0, 5, 5, 1, 0, 1);
        chance("n 12", x, 12, 1, 0, 12, 1, 1000000000000L);
        s.due("a -1", x.shake(1, -1, 1, 0, 0), LOST - 2);
        s.due("a 11", x.shake(1, 11, 0, 0, 0), LOST - 2);
        s.due("b -1", x.shake(1, 1, -1, 0, 0), LOST - 2);
        s.due("b 11", x.shake(1, 0, 11, 0, 0), LOST - 2);
        s.due("a 11, b -1", x.shake(1, 11, -1, 0, 0), LOST - 2);
        s.due("a -1, b 11", x.shake(1, -1, 11, 0, 0), LOST - 2);
        s.due("both 11", x.shake(1, 5, 6, 0, 0), LOST - 2);
        s.due("both 11, too", x.shake(1, 6, 5, 0, 0), LOST - 2);
        s.due("both BIG", x.shake(1, BIG, BIG, 0, 0), LOST - 2);
        chance("both 10", x, 1, 5, 5, 1, 1, 1);
        chance("a 10", x, 12, 10, 0, 12, 1, 1);
        chance("b 10", x, 12, 0, 10, 12, 1, 1);
        chance("both 0", x, 12, 0, 0, 1, 0, 1);
        chance("else the same", x, 1, 3, 4, 1, 7, 10);
        chance("less and more, the same again", x, 2, 5, 5, 1, 1, 2);
        s.terms("that it is k (0 to 12) or more off then, either way.");
        s.due("k -1", x.shake(1, 1, 1, -1, 0), LOST - 2);
        s.due("k 13", x.shake(12, 1, 1, 13, 0), LOST - 2);
        chance("k 0", x, 12, 3, 4, 0, 1, 1);
        chance("k is more than n", x, 11, 5, 5, 12, 0, 1);
        chance("k 12, either way", x, 12, 5, 5, 12, 1, 2048);
        chance("k 2, less or more", x, 2, 1, 2, 2, 5, 100);
        chance("k 1, or more", x, 2, 1, 2, 1, 47, 100);
        chance("no more than 1 less", x, 2, 1, 0, 1, 19, 100);
    }

    /** The fraction that is due, lowest terms or not. */
    private void chance(String what, LentRulers x, int n, int a, int b, int k, long... due) {
        long upper = x.shake(n, a, b, k, 0);
        long lower = x.shake(n, a, b, k, 1);
        s.holds(what + ": " + upper + " by " + lower, lower > 0 && upper * due[1] == due[0] * lower);
    }

    // ---- promises 23 to 30

    private void promises() {
        promises23And24();
        promises25And26();
        promises27And28();
        promises29And30();
    }

    private void promises23And24() {
        s.promise(23, "A SIGHT more: how many. OUTSIDE; FULL.");
        LentRulers x = new LentRulers();
        s.due("day -1", x.seen(-1, 1), OUTSIDE);
        s.due("day 61", x.seen(61, 1), OUTSIDE);
        s.due("inch 0", x.seen(60, 0), OUTSIDE);
        s.due("inch 201", x.seen(60, 201), OUTSIDE);
        for (int i = 1; i <= 8; i++) {
            s.due("sight " + i, x.seen(i % 2 == 0 ? 0 : 60, i % 2 == 0 ? 200 : 1), i);
        }
        s.due("FULL", x.seen(0, 200), FULL);
        s.due("OUTSIDE ahead of FULL by the day", x.seen(61, 200), OUTSIDE);
        s.due("OUTSIDE ahead of FULL by the inch", x.seen(0, 201), OUTSIDE);
        s.promise(24, "SIGHTS go: how many there were.");
        s.due("eight", x.forget(), 8);
        s.due("none", x.forget(), 0);
        s.due("none are left", x.told(3), 0);
        s.due("all LAWS fit", x.fits(-1), 3800);
        s.due("there is room again", x.seen(0, 9), 1);
        s.due("what was is gone", x.fits(-1), 19);
    }

    private void promises25And26() {
        s.promise(25, "FITS: how many (i = -1), the i-th; NONE.");
        LentRulers x = seeing(0, 60);
        s.due("how many", x.fits(-1), 19);
        s.due("the first", x.fits(0), 6000);
        s.due("the last", x.fits(18), 6018);
        s.due("behind the last", x.fits(19), NONE);
        s.due("-2", x.fits(-2), NONE);
        s.due("SMALL", x.fits(SMALL), NONE);
        s.due("BIG", x.fits(BIG), NONE);
        LentRulers none = seeing(0, 60, 0, 61);
        s.due("none fit", none.fits(-1), 0);
        s.due("none fit, the first", none.fits(0), NONE);
        s.promise(26, "ASK: the day (what = 0), how many (1); NONE: no LAW fits. OUTSIDE.");
        s.due("the day", x.ask(0), 1);
        s.due("how many", x.ask(1), 1);
        s.due("what -1", x.ask(-1), OUTSIDE);
        s.due("what 2", x.ask(2), OUTSIDE);
        s.due("no LAW, the day", none.ask(0), NONE);
        s.due("no LAW, how many", none.ask(1), NONE);
        s.due("no LAW, OUTSIDE below", none.ask(-1), OUTSIDE);
        s.due("no LAW, OUTSIDE above", none.ask(2), OUTSIDE);
    }

    private void promises27And28() {
        s.promise(27, "SETTLE: what he has (n 0 to 99). UNKNOWN; OUTSIDE.");
        LentRulers x = ring(90);
        s.due("n -1", x.settle(0, -1), OUTSIDE);
        s.due("n 0", x.settle(0, 0), 90);
        s.due("n 99", x.settle(5, 99), x.settle(0, 99));
        s.due("n 100", x.settle(0, 100), OUTSIDE);
        s.due("one -1", x.settle(-1, 0), UNKNOWN);
        s.due("one 6", x.settle(6, 0), UNKNOWN);
        s.due("UNKNOWN ahead of OUTSIDE, below", x.settle(-1, -1), UNKNOWN);
        s.due("UNKNOWN ahead of OUTSIDE, above", x.settle(6, 100), UNKNOWN);
        s.promise(28, "SETTLE: behind how many times.");
        s.due("none", new LentRulers().settled(), 0);
        // 70 70 60 60 60 70, 70 66 63 60 63 66, 67 66 63 62 63 66, ..
        s.due("two times are not enough", x.settle(3, 2), 60);
        s.holds("from then on all is the same", still(x));
        LentRulers y = ring(200, 200, 200, 1, 1, 1);
        s.holds("of 200 and 1, too", still(y));
    }

    /** Behind settled() times all stays as it is, and not a time earlier. */
    private static boolean still(LentRulers x) {
        int times = x.settled();
        boolean moved = false;
        for (int one = 0; one < 6; one++) {
            if (x.settle(one, times) != x.settle(one, times + 1)) {
                return false;
            }
            moved = moved || x.settle(one, times - 1) != x.settle(one, times);
        }
        return moved;
    }

    private void promises29And30() {
        s.promise(29, "HALVES: whether (what = 0), how many (1; NONE). OUTSIDE.");
        LentRulers x = new LentRulers();
        s.due("whether", x.halves(3, 1, 0), 1);
        s.due("how many", x.halves(3, 1, 1), 1);
        s.due("not", x.halves(2, 1, 0), 0);
        s.due("NONE", x.halves(2, 1, 1), NONE);
        s.due("what -1", x.halves(3, 1, -1), OUTSIDE);
        s.due("what 2", x.halves(3, 1, 2), OUTSIDE);
        s.due("n BIG", x.halves(BIG, 1, 0), OUTSIDE);
        s.due("k SMALL", x.halves(3, SMALL, 0), OUTSIDE);
        s.promise(30, "SHAKE. OUTSIDE: n, a, b, both together, k, part.");
        s.due("n", x.shake(13, 1, 1, 1, 0), LOST - 2);
        s.due("a", x.shake(1, 11, 0, 1, 0), LOST - 2);
        s.due("b", x.shake(1, 0, 11, 1, 0), LOST - 2);
        s.due("both together", x.shake(1, 10, 1, 1, 0), LOST - 2);
        s.due("k", x.shake(1, 1, 1, 13, 0), LOST - 2);
        s.due("part 2", x.shake(1, 1, 1, 1, 2), LOST - 2);
        s.due("part -1", x.shake(1, 1, 1, 1, -1), LOST - 2);
        s.due("upper", x.shake(1, 1, 1, 1, 0), 1);
        s.due("lower", x.shake(1, 1, 1, 1, 1), 5);
    }
}
