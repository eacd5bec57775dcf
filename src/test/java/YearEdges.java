/** The edges of the terms about a year by draws, and of promises 31 to 34. */
final class YearEdges {
    private static final int NONE = -6;
    private static final int OUTSIDE = -2;
    private static final int STATE = -3;
    private static final int SMALL = Integer.MIN_VALUE;
    private static final int BIG = Integer.MAX_VALUE;

    private final Sentences s;

    YearEdges(Sentences s) {
        this.s = s;
    }

    void all() {
        seedAndActs();
        draws();
        kinds();
        answers();
        promise31();
        promise32();
        promise33();
        promise34();
    }

    // ---- a year

    /** What is drawn as act i (from 0 on). */
    private static int draw(int seed, int i) {
        long x = seed;
        for (int times = 0; times <= i; times++) {
            x = (75 * x + 74) % 65537;
        }
        return (int) x;
    }

    private static int oneOf(int seed, int i) {
        return draw(seed, i) % 6;
    }

    private static int kindOf(int seed, int i) {
        return draw(seed, i) / 6 % 8;
    }

    private static int numberOf(int seed, int i) {
        return 1 + draw(seed, i) / 48 % 9;
    }

    private static int bridgeOf(int seed, int i) {
        return draw(seed, i) / 432 % 4;
    }

    /** The first seed from one on whose first acts are of these kinds, all of one ONE. */
    private static int seedFrom(int from, int... kinds) {
        for (int seed = from; seed < 10000; seed++) {
            boolean fits = true;
            for (int i = 0; i < kinds.length; i++) {
                fits = fits && kindOf(seed, i) == kinds[i] && oneOf(seed, i) == oneOf(seed, 0);
            }
            if (fits) {
                return seed;
            }
        }
        throw new IllegalStateException("there is no such seed");
    }

    private void seedAndActs() {
        s.terms("A YEAR by a seed (0 to 9999) of m ACTS (1 to 99), from all as it is:");
        LentRulers x = new LentRulers();
        s.due("seed -1", x.year(-1, 1, 0), OUTSIDE);
        s.due("seed 10000", x.year(10000, 1, 0), OUTSIDE);
        // x is 74: ONE 2, 12 left over by 8 is 4, n is 2.
        s.due("seed 0", x.year(0, 1, 0), 58);
        // x is 749999 less 11 times 65537, 29092: ONE 4, 4848 left over by 8 is 0, n is 1 and 606 left over by 9.
        s.due("seed 9999", x.year(9999, 1, 1), 596);
        s.due("m 0", x.year(0, 0, 0), OUTSIDE);
        s.due("m 100", x.year(0, 100, 0), OUTSIDE);
        Model model = new Model();
        for (int seed = 0; seed < 40; seed++) {
            s.due("98 ACTS", x.year(seed, 98, 0), model.year(seed, 98, 0));
            s.due("99 ACTS", x.year(seed, 99, 0), model.year(seed, 99, 0));
        }
        x.inch(50);
        s.due("from another INCH", x.year(0, 1, 0), 48);
        x.one(4, 4, 0, 0);
        s.due("from another PURSE", x.year(9999, 1, 1), 500);
    }

    private void draws() {
        s.terms("x becomes (75 x and 74) left over by 65537;");
        s.due("from 0 on: 74, of which the INCH is 2 less", new LentRulers().year(0, 1, 0), 58);
        // 873 becomes 65549, 12 left over: ONE 0, 2 left over by 8 is 2, n is 1, BRIDGE 0.
        LentRulers x = new LentRulers();
        x.bridge(0, 60);
        s.due("what is left over by 65537", x.year(873, 1, 2), 1);
        s.terms("of ONE x left over by 6,");
        for (int one = 0; one < 6; one++) {
            int seed = seedOfOne(0, one);
            LentRulers y = new LentRulers();
            y.one(one, 0, 0, 0);
            s.due("ONE " + one + " has no coin", y.year(seed, 1, 1), 500);
            s.due("ONE " + one + " has", new LentRulers().year(seed, 1, 1), 600 - numberOf(seed, 0));
        }
        s.terms("by x by 6 (cut) left over by 8,");
        s.due("kind 7 is a day", ended(seedFrom(0, 7)), 61);
        s.due("kind 0 is none", ended(seedFrom(0, 0)), 60);
        s.terms("with n being 1 and x by 48 (cut) left over by 9:");
        for (int n = 1; n <= 9; n++) {
            int seed = seedFrom(0, 4);
            while (numberOf(seed, 0) != n) {
                seed = seedFrom(seed + 1, 4);
            }
            s.due("n " + n, new LentRulers().year(seed, 1, 0), 60 - n);
        }
    }

    private static int seedOfOne(int kind, int one) {
        int seed = seedFrom(0, kind);
        while (oneOf(seed, 0) != one) {
            seed = seedFrom(seed + 1, kind);
        }
        return seed;
    }

    /** The inch behind one act of a year, if a day makes it 1 more. */
    private static int ended(int seed) {
        LentRulers x = new LentRulers();
        x.week(0, 1);
        return x.year(seed, 1, 0);
    }

    private void kinds() {
        buys();
        sells();
        builds();
        inchLessAndMore();
        copies();
        endsDays();
    }

    private void buys() {
        s.terms("0 he buys n inches,");
        int seed = seedFrom(0, 0);
        int one = oneOf(seed, 0);
        int n = numberOf(seed, 0);
        LentRulers x = new LentRulers();
        x.one(one, n, 99999 - 60 * n, 1);
        s.due("just coins and room", x.year(seed, 1, 1), 500);
        x.one(one, n, 99999 - 60 * n + 1, 1);
        s.due("too much CLOTH", x.year(seed, 1, 1), 500 + n);
        x.one(one, n - 1, 0, 1);
        s.due("a coin too few", x.year(seed, 1, 1), 500 + n - 1);
        int both = seedFrom(0, 0, 1);
        LentRulers y = new LentRulers();
        y.one(oneOf(both, 0), 100, 0, 0);
        int bought = numberOf(both, 0);
        int sold = numberOf(both, 1);
        s.due("his CLOTH is more", y.year(both, 2, 1), 600 - bought + (sold <= bought ? sold : 0));
    }

    private void sells() {
        s.terms("1 sells n,");
        int seed = seedFrom(0, 1);
        int one = oneOf(seed, 0);
        int n = numberOf(seed, 0);
        LentRulers x = new LentRulers();
        x.one(one, 0, 60 * n, 0);
        s.due("just CLOTH", x.year(seed, 1, 1), 500 + n);
        x.one(one, 0, 60 * n - 1, 0);
        s.due("a hair too little", x.year(seed, 1, 1), 500);
        x.one(one, 0, 60 * n - 1, 59);
        s.due("by his RULER", x.year(seed, 1, 1), 500 + n);
        x.one(one, 9999 - n, 60 * n, 0);
        s.due("just room for coins", x.year(seed, 1, 1), 500 + 9999);
        x.one(one, 9999 - n + 1, 60 * n, 0);
        s.due("a coin too many", x.year(seed, 1, 1), 500 + 9999 - n + 1);
    }

    private void builds() {
        s.terms("2 builds n at BRIDGE x by 432 (cut) left over by 4 from the WEST,");
        buildsAtEach(2);
        s.terms("3 from the EAST,");
        buildsAtEach(3);
        int both = seedFrom(0, 2, 3);
        while (bridgeOf(both, 0) != bridgeOf(both, 1)) {
            both = seedFrom(both + 1, 2, 3);
        }
        int built = 60 * (numberOf(both, 0) + numberOf(both, 1));
        LentRulers x = new LentRulers();
        x.bridge(bridgeOf(both, 0), built);
        s.due("both together are its SPAN", x.year(both, 2, 2), 1);
        x.bridge(bridgeOf(both, 0), built + 1);
        s.due("both together are a hair too short", x.year(both, 2, 2), 0);
    }

    private void buildsAtEach(int kind) {
        for (int seed = 0; seed < 10000; seed++) {
            if (kindOf(seed, 0) == kind) {
                int bridge = bridgeOf(seed, 0);
                int n = numberOf(seed, 0);
                LentRulers x = new LentRulers();
                x.bridge(bridge, 60 * n);
                s.due("BRIDGE " + bridge + " has just met", x.year(seed, 1, 2), 1);
                x.bridge(bridge, 60 * n + 1);
                s.due("BRIDGE " + bridge + " has not", x.year(seed, 1, 2), 0);
                x.one(oneOf(seed, 0), 0, 0, 61);
                s.due("BRIDGE " + bridge + " has by his RULER", x.year(seed, 1, 2), 1);
            }
        }
    }

    private void inchLessAndMore() {
        s.terms("4 the INCH is n less,");
        int less = seedFrom(0, 4);
        int n = numberOf(less, 0);
        LentRulers x = new LentRulers();
        int[][] lower = {{60, 60 - n}, {n + 2, 2}, {n + 1, 1}, {n, 1}, {1, 1}};
        for (int[] row : lower) {
            x.inch(row[0]);
            s.due("of " + row[0], x.year(less, 1, 0), row[1]);
        }
        s.terms("5 n more,");
        int more = seedFrom(0, 5);
        int m = numberOf(more, 0);
        int[][] higher = {{60, 60 + m}, {199 - m, 199}, {200 - m, 200}, {201 - m, 200}, {200, 200}};
        for (int[] row : higher) {
            x.inch(row[0]);
            s.due("of " + row[0], x.year(more, 1, 0), row[1]);
        }
    }

    private void copies() {
        s.terms("6 his RULER is as the INCH,");
        int seed = seedFrom(0, 6, 1);
        int n = numberOf(seed, 1);
        int one = oneOf(seed, 0);
        LentRulers x = new LentRulers();
        x.one(one, 0, 60 * n - 1, 1);
        s.due("he can not sell by it", x.year(seed, 2, 1), 500);
        x.one(one, 0, 60 * n, 1);
        s.due("he just can", x.year(seed, 2, 1), 500 + n);
        x.one((one + 1) % 6, 100, 0, 1);
        s.due("not another's", x.year(seed, 2, 1), 500 + n);
    }

    private void endsDays() {
        s.terms("7 a day;");
        int seed = seedFrom(0, 7, 7);
        LentRulers x = new LentRulers();
        x.week(0, 1);
        x.week(1, 3);
        s.due("day 0", x.year(seed, 1, 0), 61);
        s.due("day 1", x.year(seed, 2, 0), 64);
        Checks.write(x, "......");
        x.done();
        x.inch(60);
        s.due("day 6", x.year(seed, 1, 0), 60);
        s.due("day 7 is as day 0", x.year(seed, 2, 0), 61);
        x.week(6, 9);
        x.inch(200);
        s.due("200 at most", x.year(seed, 1, 0), 200);
        x.week(6, -9);
        x.inch(2);
        s.due("1 at least", x.year(seed, 1, 0), 1);
    }

    private void answers() {
        s.terms("each if that can be:");
        // 74, then 5624: ONE 2 has nothing to sell, 9 inches; what comes behind it is done all the same.
        LentRulers x = new LentRulers();
        s.due("left out", x.year(0, 2, 1), 600);
        s.due("what comes behind it", x.year(0, 9, 0), 55);
        s.due("what comes behind it, coins", x.year(0, 9, 1), 596);
        s.terms("the INCH; coins of all together; BRIDGES that have met.");
        for (int one = 0; one < 6; one++) {
            x.one(one, 9999, 0, 0);
        }
        s.due("coins of all", x.year(0, 1, 1), 6 * 9999);
        s.due("no BRIDGE", x.year(0, 1, 2), 0);
        for (int bridge = 0; bridge < 4; bridge++) {
            x.bridge(bridge, 60);
        }
        Checks.write(x, "A(01A)11A(21A)31");
        x.done();
        s.due("all BRIDGES, which had met already", x.year(0, 1, 2), 4);
        x.bridge(3, 60);
        s.due("all but one", x.year(0, 1, 2), 3);
        s.terms("Nothing is DONE in fact.");
        Checks.write(x, "A+1.");
        String was = Snapshot.of(x);
        s.due("a year", x.year(77, 99, 2), 4);
        s.holds("all is as it was", was.equals(Snapshot.of(x)));
    }

    // ---- promises 31 to 34

    private void promise31() {
        s.promise(31, "A YEAR: the INCH (what = 0), coins (1), BRIDGES (2). OUTSIDE.");
        LentRulers x = new LentRulers();
        s.due("the INCH", x.year(0, 1, 0), 58);
        s.due("coins", x.year(0, 1, 1), 600);
        s.due("BRIDGES", x.year(0, 1, 2), 0);
        s.due("what -1", x.year(0, 1, -1), OUTSIDE);
        s.due("what 3", x.year(0, 1, 3), OUTSIDE);
        s.due("seed -1", x.year(-1, 1, 0), OUTSIDE);
        s.due("seed 10000", x.year(10000, 1, 0), OUTSIDE);
        s.due("seed SMALL", x.year(SMALL, 1, 0), OUTSIDE);
        s.due("m 0", x.year(0, 0, 0), OUTSIDE);
        s.due("m 100", x.year(0, 100, 0), OUTSIDE);
        s.due("m BIG", x.year(0, BIG, 0), OUTSIDE);
        Checks.write(x, "A");
        s.due("a FAULT does not matter", x.year(0, 1, 0), 58);
    }

    private static LentRulers changed() {
        LentRulers x = new LentRulers();
        for (int i = 0; i < 8; i++) {
            x.week(i, i - 4);
            x.one(i, 10 + i, 2000 + i, 30 + i);
            x.stick(i, 1000 + i);
            x.bridge(i, 5000 + i);
        }
        Checks.write(x, "...A(01A(12A(23A(34B)01B)12B)23B)34");
        x.done();
        x.inch(77);
        x.seen(3, 90);
        x.seen(4, 95);
        return x;
    }

    private static void changeAll(LentRulers x) {
        Checks.write(x, ".A(01A(11A(21A(31B)01B)11B)21B)31");
        x.done();
        for (int i = 0; i < 8; i++) {
            x.week(i, 9);
            x.one(i, 1, 1, 1);
            x.stick(i, 1);
        }
        x.bridge(0, 9);
        x.inch(9);
        x.forget();
        x.seen(5, 90);
        x.seen(4, 96);
    }

    private void promise32() {
        s.promise(32, "All but the PAD is kept in an IMAGE (0, 1): 1. OUTSIDE.");
        LentRulers x = changed();
        s.due("-1", x.image(-1), OUTSIDE);
        s.due("2", x.image(2), OUTSIDE);
        s.due("a refused one keeps nothing", x.restore(0), STATE);
        s.due("0", x.image(0), 1);
        s.due("it keeps no other", x.restore(1), STATE);
        String was = Snapshot.of(x);
        changeAll(x);
        s.due("1", x.image(1), 1);
        String then = Snapshot.of(x);
        s.holds("all is changed", !was.equals(then));
        x.restore(0);
        s.holds("all was kept in the first", was.equals(Snapshot.of(x)));
        x.restore(1);
        s.holds("all was kept in the second", then.equals(Snapshot.of(x)));
        LentRulers y = changed();
        Checks.write(y, "A+1");
        y.image(0);
        y.wipe();
        y.say('.');
        y.restore(0);
        s.due("the PAD is not kept", y.told(0), 1);
        s.due("nor its signs", y.fault(), NONE);
        y.inch(5);
        s.due("anew", y.image(0), 1);
        y.inch(6);
        y.restore(0);
        s.due("what it was last", y.told(1), 5);
    }

    private void promise33() {
        s.promise(33, "It is as it was when it was kept: 1. OUTSIDE; STATE: it was not.");
        LentRulers x = changed();
        s.due("-1, OUTSIDE ahead of STATE", x.restore(-1), OUTSIDE);
        s.due("2, OUTSIDE ahead of STATE", x.restore(2), OUTSIDE);
        s.due("the first was not", x.restore(0), STATE);
        s.due("the second was not", x.restore(1), STATE);
        x.image(1);
        String was = Snapshot.of(x);
        s.due("the first was not, still", x.restore(0), STATE);
        for (int times = 0; times < 2; times++) {
            changeAll(x);
            s.due("restore(1)", x.restore(1), 1);
            s.holds("it is as it was", was.equals(Snapshot.of(x)));
        }
        LentRulers y = new LentRulers();
        y.image(0);
        y.inch(61);
        y.image(1);
        y.restore(0);
        s.due("the other IMAGE stays", y.restore(1), 1);
        s.due("as it was", y.told(1), 61);
    }

    private void promise34() {
        s.promise(34, "0 signs, 1 the INCH, 2 the day, 3 SIGHTS;");
        LentRulers x = changed();
        Checks.write(x, "A+");
        s.due("-1", x.told(-1), OUTSIDE);
        s.due("signs", x.told(0), 2);
        s.due("the INCH", x.told(1), 77);
        s.due("the day", x.told(2), 3);
        s.due("SIGHTS", x.told(3), 2);
        outside(x, 4, 9);
        s.promise(34, "10 and a day 0 to 6: WEEK and 9;");
        for (int day = 0; day < 7; day++) {
            s.due("day " + day, x.told(10 + day), day - 4 + 9);
        }
        outside(x, 17, 19);
        s.promise(34, "20 and a STICK: how LONG;");
        for (int stick = 0; stick < 8; stick++) {
            s.due("STICK " + stick, x.told(20 + stick), 1000 + stick);
        }
        outside(x, 28, 39);
        s.promise(34, "40 and 10 times a ONE and 0 PURSE, 1 CLOTH, 2 RULER, 3 MEASURE;");
        x.one(5, 15, 2005, 0);
        for (int one = 0; one < 6; one++) {
            s.due("PURSE", x.told(40 + 10 * one), 10 + one);
            s.due("CLOTH", x.told(41 + 10 * one), 2000 + one);
            s.due("RULER", x.told(42 + 10 * one), one == 5 ? 0 : 30 + one);
            s.due("MEASURE", x.told(43 + 10 * one), one == 5 ? 77 : 30 + one);
            outside(x, 44 + 10 * one, 49 + 10 * one);
        }
        s.promise(34, "100 and 10 times a BRIDGE and 0 SPAN, 1 WEST, 2 EAST. OUTSIDE.");
        for (int bridge = 0; bridge < 4; bridge++) {
            s.due("SPAN", x.told(100 + 10 * bridge), 5000 + bridge);
            s.due("WEST", x.told(101 + 10 * bridge), 30 * (1 + bridge));
            s.due("EAST", x.told(102 + 10 * bridge), 31 * (1 + bridge));
            outside(x, 103 + 10 * bridge, 109 + 10 * bridge);
        }
        outside(x, 140, 150);
        s.due("SMALL", x.told(SMALL), OUTSIDE);
        s.due("BIG", x.told(BIG), OUTSIDE);
    }

    private void outside(LentRulers x, int from, int to) {
        for (int what = from; what <= to; what++) {
            s.due("told(" + what + ")", x.told(what), OUTSIDE);
        }
    }
}
