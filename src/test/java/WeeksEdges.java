/** The edges of why an act can not be, of the terms about weeks, and of promises 10 to 16. */
final class WeeksEdges {
    private static final int NONE = -6;
    private static final int UNKNOWN = -1;
    private static final int OUTSIDE = -2;
    private static final int NO = -5;
    private static final long LOST = -1000000000000000000L;

    private final Sentences s;

    WeeksEdges(Sentences s) {
        this.s = s;
    }

    void all() {
        reasons();
        terms();
        promises();
    }

    private static LentRulers writing(String text) {
        return writing(new LentRulers(), text);
    }

    private static LentRulers writing(LentRulers x, String text) {
        Checks.write(x, text);
        return x;
    }

    // ---- reasons

    private void reasons() {
        leastReason();
        tooLittle();
        tooMuch();
        hasMet();
        inchAtItsEnd();
        rulerAlready();
        lastDay();
    }

    /** Why A's act can not be, NONE if it can. */
    private static int why(int purse, int cloth, int ruler, String act) {
        LentRulers x = new LentRulers();
        x.one(0, purse, cloth, ruler);
        return writing(x, act).judge(1);
    }

    private void leastReason() {
        s.terms("An ACT can not be for the least of these reasons:");
        s.due("buying, both 1 and 2", why(8, 99999, 0, "A+9"), 1);
        s.due("buying, 2 alone", why(9, 99999, 0, "A+9"), 2);
        s.due("buying, 1 alone", why(8, 0, 0, "A+9"), 1);
        s.due("selling, both 1 and 2", why(9999, 539, 0, "A-9"), 1);
        s.due("selling, 2 alone", why(9999, 540, 0, "A-9"), 2);
        s.due("selling, 1 alone", why(0, 539, 0, "A-9"), 1);
        s.due("cutting is never hindered", why(0, 0, 200, "A/79"), NONE);
    }

    private void tooLittle() {
        s.terms("1 his PURSE has too little (+), his CLOTH (-);");
        for (int n = 1; n <= 9; n++) {
            s.due("a coin too few for " + n, why(n - 1, 0, 0, "A+" + n), 1);
            s.due("just coins for " + n, why(n, 0, 0, "A+" + n), NONE);
            s.due("a hair too little for " + n, why(0, 60 * n - 1, 0, "A-" + n), 1);
            s.due("just CLOTH for " + n, why(0, 60 * n, 0, "A-" + n), NONE);
            s.due("a hair too little by his RULER", why(0, 200 * n - 1, 200, "A-" + n), 1);
            s.due("just CLOTH by his RULER", why(0, 200 * n, 200, "A-" + n), NONE);
        }
        LentRulers x = new LentRulers();
        x.one(0, 9, 540, 0);
        s.due("the last coins", writing(x, "A+9").behind(0, 0), 0);
        s.due("the last CLOTH", writing(x, "A-9").behind(0, 1), 0);
        s.due("by what is left then", writing(x, "A+9A+1").judge(0), 1);
    }

    private void tooMuch() {
        s.terms("2 he would have more CLOTH than 99999 (+), coins than 9999 (-);");
        for (int n = 1; n <= 9; n++) {
            s.due("just CLOTH enough", why(9, 99999 - 60 * n, 0, "A+" + n), NONE);
            s.due("a hair too much", why(9, 99999 - 60 * n + 1, 0, "A+" + n), 2);
            s.due("a hair too much, by the INCH", why(9, 99999 - 60 * n + 1, 1, "A+" + n), 2);
            s.due("just coins enough", why(9999 - n, 99999, 0, "A-" + n), NONE);
            s.due("a coin too many", why(9999 - n + 1, 99999, 0, "A-" + n), 2);
        }
        LentRulers x = new LentRulers();
        x.one(0, 9998, 99939, 0);
        s.due("the most CLOTH", writing(x, "A+1").behind(0, 1), 99999);
        s.due("the most coins", writing(x, "A-1").behind(0, 0), 9999);
    }

    private void hasMet() {
        s.terms("3 the BRIDGE has met already (WEST and EAST together are its SPAN or more);");
        int[][] spans = {{121, NONE}, {120, 3}, {119, 3}, {61, 3}};
        for (int[] span : spans) {
            for (String side : new String[] {"(", ")"}) {
                LentRulers x = new LentRulers();
                x.bridge(3, span[0]);
                s.due("a SPAN of " + span[0], writing(x, "A(31A)31B" + side + "31").judge(1), span[1]);
                writing(x, "A(31A)31").done();
                s.due("now, a SPAN of " + span[0], writing(x, "B" + side + "31").judge(1), span[1]);
            }
        }
        LentRulers x = new LentRulers();
        x.bridge(3, 60);
        s.due("from one end alone", writing(x, "A(31A)31").judge(0), 1);
        s.due("from the other alone", writing(x, "A)31A(31").judge(0), 1);
        s.due("another BRIDGE", writing(x, "A(31A(21").judge(0), NONE);
        x.bridge(3, 1);
        s.due("nothing is built, a SPAN of 1", writing(x, "A(31").judge(0), NONE);
    }

    private static LentRulers inchOf(int inch) {
        LentRulers x = new LentRulers();
        x.inch(inch);
        return x;
    }

    private void inchAtItsEnd() {
        s.terms("4 the INCH is 1 already (<), is 200 already (>);");
        for (int n = 1; n <= 9; n++) {
            s.due("1 less", writing(inchOf(1), "<" + n).judge(1), 4);
            s.due("2 less", writing(inchOf(2), "<" + n).judge(1), NONE);
            s.due("200 more", writing(inchOf(200), ">" + n).judge(1), 4);
            s.due("199 more", writing(inchOf(199), ">" + n).judge(1), NONE);
            s.due("1 more", writing(inchOf(1), ">" + n).judge(1), NONE);
            s.due("200 less", writing(inchOf(200), "<" + n).judge(1), NONE);
        }
        s.due("1 by then", writing(inchOf(9), "<9<1").judge(0), 1);
        s.due("200 by then", writing(inchOf(192), ">9>1").judge(0), 1);
    }

    private void rulerAlready() {
        s.terms("5 his RULER is as the INCH already (=), is none already (x);");
        s.due("a RULER of 59", why(0, 0, 59, "A="), NONE);
        s.due("a RULER of 60", why(0, 0, 60, "A="), 5);
        s.due("a RULER of 61", why(0, 0, 61, "A="), NONE);
        s.due("none, which is not as the INCH", why(0, 0, 0, "A="), NONE);
        s.due("none is none", why(0, 0, 0, "Ax"), 5);
        s.due("1 is not none", why(0, 0, 1, "Ax"), NONE);
        s.due("200 is not none", why(0, 0, 200, "Ax"), NONE);
        s.due("as the INCH of then", why(0, 0, 65, ">5A="), 5);
        s.due("as the INCH was", why(0, 0, 60, ">5A="), NONE);
        s.due("another's", why(0, 0, 60, "B="), NONE);
    }

    private void lastDay() {
        s.terms("6 it is day 999 (.).");
        // So many days take more calls than 512, behind which all answers are free; the class holds it all the same.
        LentRulers x = new LentRulers();
        for (int i = 0; i < 16; i++) {
            writing(x, ".".repeat(60)).done();
        }
        writing(x, ".".repeat(38)).done();
        s.due("the day", x.told(2), 998);
        s.due("day 998", writing(x, ".").judge(1), NONE);
        s.due("it is day 999", x.done(), 1);
        s.due("day 999", writing(x, ".").judge(1), 6);
        s.due("other ACTS", writing(x, "A+1<1").judge(1), NONE);
    }

    // ---- terms

    private void terms() {
        judged();
        done();
        behind();
        behindAll();
        inches();
    }

    private void judged() {
        s.terms("JUDGED: of WEEKS the first ACT (from 0 on) that can not be, and why.");
        s.due("the first", writing("AxB-1").judge(0), 0);
        s.due("why", writing("AxB-1").judge(1), 5);
        s.due("ACTS are counted, not signs", writing("A/11A(11<1AxB-1").judge(0), 3);
        s.due("the last that a PAD has room for", writing(".".repeat(58) + "Ax").judge(0), 58);
        s.due("none of them", writing("A+1A-1").judge(0), NONE);
        s.due("none of none", writing("").judge(0), NONE);
        s.due("none, why", writing("").judge(1), NONE);
        s.due("what is ahead makes it possible", writing("A=Ax").judge(0), NONE);
    }

    private void done() {
        s.terms("DONE: all is so then.");
        LentRulers x = new LentRulers();
        x.week(0, -3);
        writing(x, "A+2.B=B/73C(01D)32A-1>9");
        String then = x.then(0) + " " + x.then(1) + " " + x.behind(0, 0) + " " + x.behind(0, 1) + " " + x.behind(1, 2)
                + " " + x.lies(7) + " " + x.built(0, 0) + " " + x.built(3, 1);
        s.holds("BEHIND is by the ACTS", then.equals("66 1 99 63 57 171 57 114"));
        s.due("ACTS", x.done(), 8);
        String now = x.told(1) + " " + x.told(2) + " " + x.told(40) + " " + x.told(41) + " " + x.told(52)
                + " " + x.told(27) + " " + x.told(101) + " " + x.told(132);
        s.holds("all is so", now.equals(then));
    }

    private void behind() {
        s.terms("BEHIND, likewise, not being DONE:");
        LentRulers x = writing("A+1B=C/11D(11E)11<1.");
        String was = Snapshot.of(x);
        s.due("the INCH", x.then(0), 59);
        s.holds("nothing is changed", was.equals(Snapshot.of(x)));
        s.due("the INCH now", x.told(1), 60);
        s.due("on an empty PAD all is as now", writing(x, "").then(0), 60);
        s.terms("of a ONE PURSE, CLOTH, RULER;");
        LentRulers y = new LentRulers();
        y.one(5, 9, 0, 0);
        writing(y, "F+9F=");
        s.due("PURSE", y.behind(5, 0), 0);
        s.due("CLOTH", y.behind(5, 1), 540);
        s.due("RULER", y.behind(5, 2), 60);
        s.terms("how LONG a STICK is;");
        y.stick(6, 1800);
        writing(y, "A/79");
        s.due("cut", y.lies(7), 540);
        s.due("not cut", y.lies(6), 1800);
        s.due("0", y.lies(0), 0);
        s.terms("of a BRIDGE WEST, EAST, by how much both together are more than its SPAN (NONE: it has not met);");
        int[][] spans = {{121, NONE}, {120, 0}, {119, 1}, {61, 59}, {99999, NONE}};
        for (int[] span : spans) {
            y.bridge(3, span[0]);
            writing(y, "A(31A)31");
            s.due("WEST", y.built(3, 0), 60);
            s.due("EAST", y.built(3, 1), 60);
            s.due("a SPAN of " + span[0], y.built(3, 2), span[1]);
        }
        s.due("nothing built", y.built(0, 2), NONE);
    }

    private void behindAll() {
        s.terms("of all: the INCH, the day, the first ACT behind which a BRIDGE has met that had not,"
                + " the least such (NONE).");
        LentRulers x = new LentRulers();
        x.bridge(1, 60);
        x.bridge(2, 60);
        s.due("on an empty PAD", x.then(2), NONE);
        s.due("on an empty PAD, the BRIDGE", x.then(3), NONE);
        writing(x, "A(21");
        s.due("the first of all", x.then(2), 0);
        s.due("its BRIDGE", x.then(3), 2);
        writing(x, "..>1A)21A(11");
        s.due("the INCH", x.then(0), 61);
        s.due("the day", x.then(1), 2);
        s.due("the first of two", x.then(2), 3);
        s.due("the first of two, its BRIDGE", x.then(3), 2);
        writing(x, "A(01A(21<1A(11");
        s.due("behind one that has not met", x.then(2), 1);
        writing(x, ".<1<1A(11A)11");
        s.due("the second time it is built", x.then(2), 4);
        s.due("the second time, its BRIDGE", x.then(3), 1);
        writing(x, "A(21").done();
        s.due("it had met", x.then(2), NONE);
        s.due("it had met, the BRIDGE", x.then(3), NONE);
        writing(x, "A(11");
        s.due("another has met that had not", x.then(2), 0);
        s.due("another, which", x.then(3), 1);
        writing(x, ".".repeat(56) + "A(11");
        s.due("the last that a PAD has room for", x.then(2), 56);
        x.bridge(0, 61);
        s.due("a hair is missing", writing(x, "A(01").then(2), NONE);
        s.due("a hair is missing, the BRIDGE", x.then(3), NONE);
    }

    private void inches() {
        s.terms("INCHES, now: how many inches a STICK is by the MEASURE of a ONE: a fraction.");
        LentRulers x = new LentRulers();
        x.one(5, 0, 0, 200);
        x.one(4, 0, 0, 1);
        x.stick(7, 1800);
        s.due("1800 by 200, upper", x.inches(7, 5, 0), 9);
        s.due("1800 by 200, lower", x.inches(7, 5, 1), 1);
        s.due("1800 by 1, upper", x.inches(7, 4, 0), 1800);
        s.due("1800 by 1, lower", x.inches(7, 4, 1), 1);
        x.stick(0, 1);
        s.due("1 by 200, upper", x.inches(0, 5, 0), 1);
        s.due("1 by 200, lower", x.inches(0, 5, 1), 200);
        s.due("0 by 200, upper", x.inches(1, 5, 0), 0);
        s.due("0 by 200, lower", x.inches(1, 5, 1), 1);
        writing(x, "A/09>9");
        s.due("now, upper", x.inches(0, 0, 0), 1);
        s.due("now, lower", x.inches(0, 0, 1), 60);
    }

    // ---- promises 10 to 16

    private void promises() {
        promise10();
        promise11();
        promises12To15();
        promise16();
    }

    private void promise10() {
        s.promise(10, "JUDGED: the ACT (what = 0), why (1); NONE. OUTSIDE; NO: there is a FAULT.");
        LentRulers x = writing("Ax");
        s.due("the ACT", x.judge(0), 0);
        s.due("why", x.judge(1), 5);
        s.due("what -1", x.judge(-1), OUTSIDE);
        s.due("what 2", x.judge(2), OUTSIDE);
        writing(x, "");
        s.due("NONE", x.judge(0), NONE);
        s.due("NONE, why", x.judge(1), NONE);
        writing(x, "AxA");
        s.due("more must come", x.judge(0), NO);
        s.due("more must come, why", x.judge(1), NO);
        s.due("OUTSIDE ahead of NO, below", x.judge(-1), OUTSIDE);
        s.due("OUTSIDE ahead of NO, above", x.judge(2), OUTSIDE);
        s.due("a sign that can not stand there", writing(x, "Ax!").judge(0), NO);
        s.due("the PAD stays", x.told(0), 3);
    }

    private void promise11() {
        s.promise(11, "WEEKS on the PAD are DONE (it is empty then): ACTS."
                + " NO: there is a FAULT, or an ACT that can not be.");
        LentRulers x = new LentRulers();
        s.due("an empty PAD", x.done(), 0);
        s.due("sixty", writing(x, ".".repeat(60)).done(), 60);
        s.due("it is empty", x.told(0), 0);
        s.due("once alone", x.done(), 0);
        s.due("the day", x.told(2), 60);
        s.due("more must come", writing(x, "A+1A").done(), NO);
        s.due("nothing was done", x.told(40), 100);
        s.due("the PAD stays", x.told(0), 4);
        s.due("a sign that can not stand there", writing(x, "A+1G").done(), NO);
        s.due("an ACT that can not be", writing(x, "A+1.Ax").done(), NO);
        s.due("nothing was done of it", x.told(40), 100);
        s.due("no day went", x.told(2), 60);
        s.due("the PAD stays then, too", x.told(0), 6);
    }

    private void promises12To15() {
        s.promise(12, "BEHIND: PURSE (what = 0), CLOTH (1), RULER (2). UNKNOWN; OUTSIDE; NO, as of done().");
        ofWeeks((x, no) -> {
            s.due("one 0", x.behind(0, 0), no ? NO : 100);
            s.due("one 5, the last number", x.behind(5, 2), no ? NO : 0);
            s.due("one -1", x.behind(-1, 0), UNKNOWN);
            s.due("one 6", x.behind(6, 0), UNKNOWN);
            s.due("one 6, UNKNOWN ahead of OUTSIDE", x.behind(6, 3), UNKNOWN);
            s.due("what -1", x.behind(0, -1), OUTSIDE);
            s.due("what 3", x.behind(0, 3), OUTSIDE);
        });
        s.promise(13, "BEHIND: how LONG a STICK is. UNKNOWN; NO, likewise.");
        ofWeeks((x, no) -> {
            s.due("stick 0", x.lies(0), no ? NO : 0);
            s.due("stick 7", x.lies(7), no ? NO : 0);
            s.due("stick -1", x.lies(-1), UNKNOWN);
            s.due("stick 8", x.lies(8), UNKNOWN);
        });
        s.promise(14, "BEHIND: WEST (what = 0), EAST (1), how much more (2; NONE). UNKNOWN; OUTSIDE; NO, likewise.");
        ofWeeks((x, no) -> {
            s.due("bridge 0", x.built(0, 0), no ? NO : 0);
            s.due("bridge 3, the last number", x.built(3, 2), no ? NO : NONE);
            s.due("bridge -1", x.built(-1, 0), UNKNOWN);
            s.due("bridge 4", x.built(4, 0), UNKNOWN);
            s.due("bridge 4, UNKNOWN ahead of OUTSIDE", x.built(4, 3), UNKNOWN);
            s.due("what -1", x.built(0, -1), OUTSIDE);
            s.due("what 3", x.built(0, 3), OUTSIDE);
        });
        s.promise(15, "BEHIND: the INCH (what = 0), the day (1), the ACT (2; NONE), the BRIDGE (3; NONE)."
                + " OUTSIDE; NO, likewise.");
        ofWeeks((x, no) -> {
            s.due("the INCH", x.then(0), no ? NO : 60);
            s.due("the day", x.then(1), no ? NO : 0);
            s.due("the ACT", x.then(2), no ? NO : NONE);
            s.due("the BRIDGE", x.then(3), no ? NO : NONE);
            s.due("what -1", x.then(-1), OUTSIDE);
            s.due("what 4", x.then(4), OUTSIDE);
        });
    }

    /** What is asked of an object, and whether its weeks can not be. */
    private interface Asked {
        void of(LentRulers x, boolean no);
    }

    private void ofWeeks(Asked asked) {
        asked.of(writing(""), false);
        asked.of(writing("B+1"), false);
        asked.of(writing("B+"), true);
        asked.of(writing("!"), true);
        asked.of(writing("Bx"), true);
        asked.of(writing("B+1Bx"), true);
    }

    private void promise16() {
        s.promise(16, "INCHES. UNKNOWN: both; OUTSIDE.");
        LentRulers x = writing("A");
        s.due("a FAULT does not matter", x.inches(0, 0, 1), 1);
        s.due("the last of both", x.inches(7, 5, 1), 1);
        s.due("stick -1", x.inches(-1, 0, 0), LOST - 1);
        s.due("stick 8", x.inches(8, 0, 0), LOST - 1);
        s.due("one -1", x.inches(0, -1, 0), LOST - 1);
        s.due("one 6", x.inches(0, 6, 0), LOST - 1);
        s.due("UNKNOWN ahead of OUTSIDE by the STICK", x.inches(8, 0, 2), LOST - 1);
        s.due("UNKNOWN ahead of OUTSIDE by the ONE", x.inches(0, 6, 2), LOST - 1);
        s.due("part -1", x.inches(0, 0, -1), LOST - 2);
        s.due("part 2", x.inches(0, 0, 2), LOST - 2);
    }
}
