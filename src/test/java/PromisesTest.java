/** The document's promises, one method each: ordinary calls, the edges it names, wrong inputs. */
final class PromisesTest {
    private static final int NONE = LentRulers.NONE;
    private static final int UNKNOWN = LentRulers.UNKNOWN;
    private static final int OUTSIDE = LentRulers.OUTSIDE;
    private static final int STATE = LentRulers.STATE;
    private static final int FULL = LentRulers.FULL;
    private static final int NO = LentRulers.NO;
    private static final long LOST_UNKNOWN = -1000000000000000001L;
    private static final long LOST_OUTSIDE = -1000000000000000002L;
    private static final int BIG = Integer.MAX_VALUE;
    private static final int SMALL = Integer.MIN_VALUE;

    private static final Checks CHECKS = new Checks("PromisesTest");

    public static void main(String[] args) {
        first();
        second();
        third();
        fourth();
        CHECKS.end();
    }

    private static void first() {
        promise1NewObject();
        promise2Inch();
        promise3Week();
        promise4One();
        promise5Stick();
        promise6Bridge();
        promise7Say();
        promise8Wipe();
        promise9Fault();
    }

    private static void second() {
        promise10Judge();
        promise11Done();
        promise12Behind();
        promise13Lies();
        promise14Built();
        promise15Then();
        promise16Inches();
    }

    private static void third() {
        promise17Will();
        promise18Sure();
        promise19When();
        promise20Meet();
        promise21Waste();
        promise22Days();
    }

    private static void fourth() {
        promise23Seen();
        promise24Forget();
        promise25Fits();
        promise26Ask();
        promise27Settle();
        promise28Settled();
        promise29Halves();
        promise30Shake();
        promise31Year();
        promise32Image();
        promise33Restore();
        promise34Told();
    }

    private static void due(String call, long got, long want) {
        CHECKS.due(call, got, want);
    }

    private static LentRulers writing(String text) {
        LentRulers x = new LentRulers();
        Checks.write(x, text);
        return x;
    }

    private static void promise1NewObject() {
        LentRulers x = new LentRulers();
        due("1 signs", x.told(0), 0);
        due("1 inch", x.told(1), 60);
        due("1 day", x.told(2), 0);
        due("1 sights", x.told(3), 0);
        for (int day = 0; day < 7; day++) {
            due("1 week " + day, x.told(10 + day), 9);
        }
        for (int stick = 0; stick < 8; stick++) {
            due("1 stick " + stick, x.told(20 + stick), 0);
        }
        for (int one = 0; one < 6; one++) {
            due("1 purse " + one, x.told(40 + 10 * one), 100);
            due("1 cloth " + one, x.told(41 + 10 * one), 0);
            due("1 ruler " + one, x.told(42 + 10 * one), 0);
            due("1 measure " + one, x.told(43 + 10 * one), 60);
        }
        for (int bridge = 0; bridge < 4; bridge++) {
            due("1 span " + bridge, x.told(100 + 10 * bridge), 600);
            due("1 west " + bridge, x.told(101 + 10 * bridge), 0);
            due("1 east " + bridge, x.told(102 + 10 * bridge), 0);
        }
        LentRulers other = new LentRulers();
        x.inch(7);
        due("1 objects share nothing", other.told(1), 60);
    }

    private static void promise2Inch() {
        LentRulers x = new LentRulers();
        due("2 inch(1)", x.inch(1), 60);
        due("2 inch(200)", x.inch(200), 1);
        due("2 inch(0)", x.inch(0), OUTSIDE);
        due("2 inch(201)", x.inch(201), OUTSIDE);
        due("2 inch(SMALL)", x.inch(SMALL), OUTSIDE);
        due("2 unchanged", x.told(1), 200);
    }

    private static void promise3Week() {
        LentRulers x = new LentRulers();
        due("3 week(6, -9)", x.week(6, -9), 9);
        due("3 week(6, 9)", x.week(6, 9), 0);
        due("3 week(6, 0)", x.week(6, 0), 18);
        due("3 week(0, 3)", x.week(0, 3), 9);
        due("3 others stay", x.told(15), 9);
        due("3 week(-1, 0)", x.week(-1, 0), OUTSIDE);
        due("3 week(7, 0)", x.week(7, 0), OUTSIDE);
        due("3 week(0, 10)", x.week(0, 10), OUTSIDE);
        due("3 week(0, -10)", x.week(0, -10), OUTSIDE);
        due("3 unchanged", x.told(10), 12);
    }

    private static void promise4One() {
        LentRulers x = new LentRulers();
        due("4 one(5, 9999, 99999, 200)", x.one(5, 9999, 99999, 200), 100);
        due("4 purse", x.told(90), 9999);
        due("4 cloth", x.told(91), 99999);
        due("4 ruler", x.told(92), 200);
        due("4 one(5, 0, 0, 0)", x.one(5, 0, 0, 0), 9999);
        due("4 no ruler", x.told(93), 60);
        due("4 one(6, -1, 0, 0)", x.one(6, -1, 0, 0), UNKNOWN);
        due("4 one(-1, 0, 0, 0)", x.one(-1, 0, 0, 0), UNKNOWN);
        due("4 purse -1", x.one(0, -1, 0, 0), OUTSIDE);
        due("4 purse 10000", x.one(0, 10000, 0, 0), OUTSIDE);
        due("4 cloth -1", x.one(0, 0, -1, 0), OUTSIDE);
        due("4 cloth 100000", x.one(0, 0, 100000, 0), OUTSIDE);
        due("4 ruler -1", x.one(0, 0, 0, -1), OUTSIDE);
        due("4 ruler 201", x.one(0, 0, 0, 201), OUTSIDE);
        due("4 unchanged", x.told(40), 100);
    }

    private static void promise5Stick() {
        LentRulers x = new LentRulers();
        due("5 stick(7, 1800)", x.stick(7, 1800), 0);
        due("5 stick(7, 0)", x.stick(7, 0), 1800);
        due("5 stick(8, -1)", x.stick(8, -1), UNKNOWN);
        due("5 stick(-1, 0)", x.stick(-1, 0), UNKNOWN);
        due("5 stick(0, 1801)", x.stick(0, 1801), OUTSIDE);
        due("5 stick(0, -1)", x.stick(0, -1), OUTSIDE);
        due("5 unchanged", x.told(20), 0);
    }

    private static void promise6Bridge() {
        LentRulers x = writing("A(31A)32");
        due("6 done", x.done(), 2);
        due("6 west", x.told(131), 60);
        due("6 east", x.told(132), 120);
        due("6 bridge(3, 0)", x.bridge(3, 0), OUTSIDE);
        due("6 bridge(3, 100000)", x.bridge(3, 100000), OUTSIDE);
        due("6 bridge(4, 0)", x.bridge(4, 0), UNKNOWN);
        due("6 bridge(-1, 1)", x.bridge(-1, 1), UNKNOWN);
        due("6 refused changes nothing", x.told(131), 60);
        due("6 bridge(3, 99999)", x.bridge(3, 99999), 600);
        due("6 west anew", x.told(131), 0);
        due("6 east anew", x.told(132), 0);
        due("6 bridge(3, 1)", x.bridge(3, 1), 99999);
    }

    private static void promise7Say() {
        LentRulers x = new LentRulers();
        due("7 say(32)", x.say(32), OUTSIDE);
        due("7 say(127)", x.say(127), OUTSIDE);
        due("7 say(33)", x.say(33), 1);
        due("7 say(126)", x.say(126), 2);
        for (int i = 3; i <= 60; i++) {
            due("7 say(46)", x.say(46), i);
        }
        due("7 a sign too many", x.say(46), FULL);
        due("7 OUTSIDE before FULL", x.say(127), OUTSIDE);
        due("7 unchanged", x.told(0), 60);
    }

    private static void promise8Wipe() {
        LentRulers x = writing("A+1.");
        due("8 wipe()", x.wipe(), 4);
        due("8 wipe() again", x.wipe(), 0);
        due("8 none are left", x.told(0), 0);
        due("8 say(46)", x.say(46), 1);
        due("8 what was wiped is gone", x.then(1), 1);
    }

    private static void promise9Fault() {
        String[] whole = {"", "A+1", "F-9", "B/01", "B/79", "C(01", "C)39", "D=", "E=", "Ex", "<1", ">9", ".",
            "..A+1A-1<1>1A=Ax.A/11A(11A)11"};
        for (String text : whole) {
            due("9 " + text, writing(text).fault(), NONE);
        }
        String[] cutShort = {"A", "A+", "A-", "A/", "A/0", "A(", "A(0", "A)", "A)0", "<", ">", ".A", "A=A", "A+1<"};
        for (String text : cutShort) {
            due("9 " + text, writing(text).fault(), text.length());
        }
        // In each of these it is the last sign that can not stand there, whatever follows.
        String[] wrong = {"G", "a", "@", "1", "+", "x", "=", "(", "/", "!", "~", "AA", "A.", "A<", "A1", "AX",
            "A+0", "A+:", "A+/", "A-0", "A-A", "A/8", "A//", "A/00", "A/0:", "A(4", "A(A", "A(00", "A)4",
            "A)00", "A)0.", "<0", "<:", ">0", "><", "A=x", "A=1", "Ax=", "A+11", ".1", "A+1G"};
        for (String text : wrong) {
            due("9 " + text, writing(text).fault(), text.length() - 1);
            due("9 " + text + "A+1", writing(text + "A+1").fault(), text.length() - 1);
        }
        due("9 a full pad cut short", writing("A=".repeat(29) + ".A").fault(), 60);
        due("9 a full pad of days", writing(".".repeat(60)).fault(), NONE);
    }

    /** What can not be, from a realm that is as told. */
    private static void judged(LentRulers x, String text, int act, int why) {
        Checks.write(x, text);
        due("10 judge(0) of " + text, x.judge(0), act);
        due("10 judge(1) of " + text, x.judge(1), why);
    }

    private static void promise10Judge() {
        LentRulers x = new LentRulers();
        x.one(0, 9, 99399, 0);
        judged(x, "", NONE, NONE);
        judged(x, "A+9", NONE, NONE);
        judged(x, "A+9A+1", 1, 1);
        judged(x, "<1A+9.A-1", NONE, NONE);
        x.one(0, 9, 99999, 0);
        judged(x, "A+1", 0, 2);
        x.one(0, 0, 99999, 0);
        judged(x, "A+1", 0, 1);
        x.one(1, 9999, 59, 0);
        judged(x, "B-1", 0, 1);
        x.one(1, 9999, 60, 0);
        judged(x, "B-1", 0, 2);
        x.one(1, 9998, 60, 0);
        judged(x, "B-1", NONE, NONE);
        x.one(1, 9998, 60, 61);
        judged(x, "B-1", 0, 1);
        judged(x, "BxB-1", NONE, NONE);
        x.bridge(2, 120);
        judged(x, "C(21C)21", NONE, NONE);
        judged(x, "C(21C)21C(21", 2, 3);
        judged(x, "C(21C)21.C)21", 3, 3);
        judged(x, "C(21C)21C(01", NONE, NONE);
        x.inch(2);
        judged(x, "<9<1", 1, 4);
        judged(x, "<1<1", 1, 4);
        judged(x, "<9>1<1", NONE, NONE);
        x.inch(199);
        judged(x, ">9>1", 1, 4);
        judged(x, ">1>1", 1, 4);
        judged(x, ">1<1>1", NONE, NONE);
        judged(x, "D=D=", 1, 5);
        judged(x, "D=<1D=", NONE, NONE);
        judged(x, "Dx", 0, 5);
        judged(x, "D=DxDx", 2, 5);
        judged(x, "D/11D/19", NONE, NONE);
        due("10 judge(2)", x.judge(2), OUTSIDE);
        due("10 judge(-1)", x.judge(-1), OUTSIDE);
        Checks.write(x, "DxA");
        due("10 a FAULT", x.judge(0), NO);
        due("10 a FAULT, why", x.judge(1), NO);
        due("10 OUTSIDE before NO", x.judge(2), OUTSIDE);
        lastDay();
    }

    private static void lastDay() {
        // So many days take more than 512 calls; the class keeps to the document there all the same.
        LentRulers y = new LentRulers();
        for (int day = 0; day < 999; day += 27) {
            Checks.write(y, ".".repeat(27));
            due("10 27 days", y.done(), 27);
        }
        due("10 day 999", y.told(2), 999);
        judged(y, ".", 0, 6);
        judged(y, "A+1.", 1, 6);
        due("10 done on day 999", y.done(), NO);
        due("10 will on day 999", y.will(9), 60);
        y.week(999 % 7, 5);
        due("10 will behind day 999", y.will(1), 65);
        y.week(0, -2);
        due("10 will goes on behind day 999", y.will(3), 63);
    }

    private static void promise11Done() {
        LentRulers x = new LentRulers();
        due("11 nothing", x.done(), 0);
        x.week(0, 4);
        Checks.write(x, "A+3B=.B/53A-1C)02B(11<4Bx");
        due("11 done()", x.done(), 9);
        due("11 the pad is empty", x.told(0), 0);
        due("11 purse", x.told(40), 98);
        due("11 cloth", x.told(41), 180 - 64);
        due("11 stick", x.told(25), 180);
        due("11 east", x.told(102), 128);
        due("11 west", x.told(111), 60);
        due("11 inch", x.told(1), 60);
        due("11 day", x.told(2), 1);
        due("11 ruler", x.told(52), 0);
        Checks.write(x, "A+1A");
        due("11 a FAULT", x.done(), NO);
        Checks.write(x, "A+1Ax");
        due("11 an ACT that can not be", x.done(), NO);
        due("11 nothing was done", x.told(40), 98);
        due("11 the pad stays", x.told(0), 5);
    }

    private static void promise12Behind() {
        LentRulers x = writing("B=>9B+2<9<9B-1");
        due("12 purse", x.behind(1, 0), 99);
        due("12 cloth", x.behind(1, 1), 138 - 60);
        due("12 ruler", x.behind(1, 2), 60);
        due("12 another", x.behind(5, 0), 100);
        due("12 not done", x.told(50), 100);
        due("12 pad stays", x.told(0), 14);
        due("12 behind(6, 3)", x.behind(6, 3), UNKNOWN);
        due("12 behind(-1, 0)", x.behind(-1, 0), UNKNOWN);
        due("12 behind(0, 3)", x.behind(0, 3), OUTSIDE);
        due("12 behind(0, -1)", x.behind(0, -1), OUTSIDE);
        Checks.write(x, "Ax");
        due("12 an ACT that can not be", x.behind(0, 0), NO);
        due("12 OUTSIDE before NO", x.behind(0, 3), OUTSIDE);
        due("12 UNKNOWN before NO", x.behind(6, 0), UNKNOWN);
        Checks.write(x, "A");
        due("12 a FAULT", x.behind(0, 0), NO);
    }

    private static void promise13Lies() {
        LentRulers x = writing("A/01>9A/79A/71");
        x.stick(3, 5);
        due("13 lies(0)", x.lies(0), 60);
        due("13 lies(7)", x.lies(7), 69);
        due("13 lies(3)", x.lies(3), 5);
        due("13 not in fact", x.told(27), 0);
        due("13 lies(8)", x.lies(8), UNKNOWN);
        due("13 lies(-1)", x.lies(-1), UNKNOWN);
        x.one(0, 0, 0, 200);
        Checks.write(x, "A/29");
        due("13 the longest", x.lies(2), 1800);
        Checks.write(x, "Bx");
        due("13 an ACT that can not be", x.lies(0), NO);
        due("13 UNKNOWN before NO", x.lies(8), UNKNOWN);
        Checks.write(x, "/");
        due("13 a FAULT", x.lies(0), NO);
    }

    private static void promise14Built() {
        LentRulers x = writing("A(09");
        due("14 west", x.built(0, 0), 540);
        due("14 east", x.built(0, 1), 0);
        due("14 has not met", x.built(0, 2), NONE);
        Checks.write(x, "A(09A)01");
        due("14 just met", x.built(0, 2), 0);
        due("14 its east", x.built(0, 1), 60);
        Checks.write(x, "A(09A)09");
        due("14 too long", x.built(0, 2), 480);
        due("14 another", x.built(3, 2), NONE);
        due("14 not in fact", x.told(101), 0);
        due("14 built(4, 3)", x.built(4, 3), UNKNOWN);
        due("14 built(-1, 0)", x.built(-1, 0), UNKNOWN);
        due("14 built(0, 3)", x.built(0, 3), OUTSIDE);
        due("14 built(0, -1)", x.built(0, -1), OUTSIDE);
        Checks.write(x, "A(09A)09A(01");
        due("14 an ACT that can not be", x.built(0, 2), NO);
        due("14 OUTSIDE before NO", x.built(0, 3), OUTSIDE);
        Checks.write(x, "A(0");
        due("14 a FAULT", x.built(0, 0), NO);
    }

    private static void promise15Then() {
        LentRulers x = new LentRulers();
        x.week(0, -9);
        x.bridge(1, 100);
        x.bridge(3, 50);
        Checks.write(x, ".<1A(11A(11A(31");
        due("15 inch", x.then(0), 50);
        due("15 day", x.then(1), 1);
        due("15 the first act", x.then(2), 3);
        due("15 the bridge", x.then(3), 1);
        Checks.write(x, "A(31A(12");
        due("15 first in time, not by number", x.then(2), 0);
        due("15 its bridge", x.then(3), 3);
        due("15 done", x.done(), 2);
        due("15 none met anew", x.then(2), NONE);
        due("15 no bridge met anew", x.then(3), NONE);
        Checks.write(x, ".A(01");
        due("15 none met yet", x.then(2), NONE);
        due("15 then(4)", x.then(4), OUTSIDE);
        due("15 then(-1)", x.then(-1), OUTSIDE);
        Checks.write(x, "Ax");
        due("15 an ACT that can not be", x.then(0), NO);
        due("15 OUTSIDE before NO", x.then(4), OUTSIDE);
        Checks.write(x, "<");
        due("15 a FAULT", x.then(0), NO);
        LentRulers held = new LentRulers();
        held.inch(5);
        held.week(0, -9);
        held.week(1, 9);
        Checks.write(held, ".");
        due("15 1 at least", held.then(0), 1);
        held.inch(195);
        Checks.write(held, ">1..");
        due("15 behind day 1", held.then(0), 196);
        Checks.write(held, ">1<1>9..");
        due("15 200 at most", held.then(0), 200);
        held.inch(193);
        held.week(0, 9);
        Checks.write(held, ".");
        due("15 200 at most behind a day", held.then(0), 200);
    }

    private static void promise16Inches() {
        LentRulers x = new LentRulers();
        x.stick(7, 1800);
        x.stick(1, 90);
        x.one(5, 0, 0, 7);
        due("16 upper", x.inches(7, 0, 0), 30);
        due("16 lower", x.inches(7, 0, 1), 1);
        due("16 lowest terms, upper", x.inches(1, 0, 0), 3);
        due("16 lowest terms, lower", x.inches(1, 0, 1), 2);
        due("16 by a ruler, upper", x.inches(1, 5, 0), 90);
        due("16 by a ruler, lower", x.inches(1, 5, 1), 7);
        due("16 nothing, upper", x.inches(0, 5, 0), 0);
        due("16 nothing, lower", x.inches(0, 5, 1), 1);
        Checks.write(x, "A/19");
        due("16 now, not behind", x.inches(1, 0, 0), 3);
        due("16 inches(8, 0, 2)", x.inches(8, 0, 2), LOST_UNKNOWN);
        due("16 inches(0, 6, 0)", x.inches(0, 6, 0), LOST_UNKNOWN);
        due("16 inches(-1, -1, 0)", x.inches(-1, -1, 0), LOST_UNKNOWN);
        due("16 inches(0, 0, 2)", x.inches(0, 0, 2), LOST_OUTSIDE);
        due("16 inches(0, 0, -1)", x.inches(0, 0, -1), LOST_OUTSIDE);
    }

    private static void promise17Will() {
        LentRulers x = new LentRulers();
        x.week(0, 1);
        x.week(6, -9);
        due("17 will(0)", x.will(0), 60);
        due("17 will(6)", x.will(6), 61);
        due("17 will(7)", x.will(7), 52);
        due("17 1 at least", x.will(56), 1);
        due("17 held day by day", x.will(57), 2);
        due("17 will(99)", x.will(99), 2);
        due("17 will(-1)", x.will(-1), OUTSIDE);
        due("17 will(100)", x.will(100), OUTSIDE);
        Checks.write(x, "......");
        x.done();
        due("17 from day 6 on", x.will(1), 52);
        Checks.write(x, "<9.");
        due("17 by WEEK alone", x.will(0), 61);
    }

    private static void promise18Sure() {
        LentRulers x = new LentRulers();
        due("18 as much, upper", x.sure(60, 0), 1);
        due("18 as much, lower", x.sure(60, 1), 1);
        for (int day = 0; day < 7; day++) {
            x.week(day, 9);
        }
        due("18 a loss, upper", x.sure(2, 0), 23);
        due("18 a loss, lower", x.sure(2, 1), 26);
        due("18 held at 200, upper", x.sure(60, 0), 1);
        x.week(0, -9);
        x.week(1, -9);
        x.week(2, -6);
        due("18 the most, upper", x.sure(9, 0), 5);
        due("18 the most, lower", x.sure(9, 1), 3);
        due("18 sure(0, 0)", x.sure(0, 0), LOST_OUTSIDE);
        due("18 sure(61, 0)", x.sure(61, 0), LOST_OUTSIDE);
        due("18 sure(1, 2)", x.sure(1, 2), LOST_OUTSIDE);
        due("18 sure(1, -1)", x.sure(1, -1), LOST_OUTSIDE);
    }

    private static void promise19When() {
        LentRulers x = new LentRulers();
        due("19 the least of as much", x.when(60), 1);
        for (int day = 0; day < 7; day++) {
            x.week(day, 9);
        }
        // 60/69, 69/78: dearer days lose less.
        due("19 a loss", x.when(2), 102);
        // On days 16 and on it is 200 at most.
        due("19 held at 200", x.when(60), 1617);
        x.week(0, -9);
        x.week(1, -9);
        x.week(2, -6);
        due("19 the most", x.when(9), 3);
        due("19 when(0)", x.when(0), OUTSIDE);
        due("19 when(61)", x.when(61), OUTSIDE);
        due("19 when(SMALL)", x.when(SMALL), OUTSIDE);
    }

    private static void promise20Meet() {
        LentRulers x = new LentRulers();
        x.week(0, 5);
        due("20 one day", x.meet(60, 1, 0, 1, 0), 1);
        due("20 just", x.meet(60, 1, 0, 1, 1), 0);
        due("20 two days", x.meet(61, 1, 0, 1, 0), 2);
        due("20 the inch of that day", x.meet(61, 1, 0, 1, 1), 64);
        // 240 on day 0, 250 on each of the next six.
        due("20 both ends", x.meet(990, 2, 3, 40, 0), 4);
        due("20 both ends, just", x.meet(990, 2, 3, 40, 1), 0);
        due("20 a hair more", x.meet(991, 2, 3, 40, 0), 5);
        due("20 a hair more, too long", x.meet(991, 2, 3, 40, 1), 249);
        LentRulers y = new LentRulers();
        due("20 behind 99 days", y.meet(99, 0, 1, 1, 0), 99);
        due("20 behind 99 days, just", y.meet(99, 0, 1, 1, 1), 0);
        due("20 not by then", y.meet(100, 0, 1, 1, 0), NONE);
        due("20 not by then, too long", y.meet(100, 0, 1, 1, 1), NONE);
        due("20 nobody builds", y.meet(1, 0, 0, 200, 0), NONE);
        due("20 s 0", x.meet(0, 1, 1, 1, 0), OUTSIDE);
        due("20 s 100000", x.meet(100000, 1, 1, 1, 0), OUTSIDE);
        due("20 a -1", x.meet(1, -1, 1, 1, 0), OUTSIDE);
        due("20 a 21", x.meet(1, 21, 1, 1, 0), OUTSIDE);
        due("20 b -1", x.meet(1, 1, -1, 1, 0), OUTSIDE);
        due("20 b 21", x.meet(1, 1, 21, 1, 0), OUTSIDE);
        due("20 r 0", x.meet(1, 1, 1, 0, 0), OUTSIDE);
        due("20 r 201", x.meet(1, 1, 1, 201, 0), OUTSIDE);
        due("20 what -1", x.meet(1, 1, 1, 1, -1), OUTSIDE);
        due("20 what 2", x.meet(1, 1, 1, 1, 2), OUTSIDE);
    }

    private static void promise21Waste() {
        LentRulers x = new LentRulers();
        x.inch(10);
        x.stick(0, 117);
        // 11 inches and 7 hairs: 5 + 6, 3 + 3 + 5.
        due("21 left", x.waste(0, 5, 3, 0), 7);
        due("21 fewest", x.waste(0, 5, 3, 1), 1);
        due("21 left by 4 and 6", x.waste(0, 4, 6, 0), 17);
        due("21 fewest of 4", x.waste(0, 4, 6, 1), 1);
        due("21 fewest of 6", x.waste(0, 6, 4, 1), 1);
        due("21 too short for any, left", x.waste(0, 12, 20, 0), 117);
        due("21 too short for any, fewest", x.waste(0, 12, 20, 1), 0);
        due("21 alike, fewest", x.waste(0, 1, 1, 1), 0);
        due("21 nothing to cut", x.waste(7, 1, 1, 0), 0);
        due("21 waste(8, 0, 0, 2)", x.waste(8, 0, 0, 2), UNKNOWN);
        due("21 waste(-1, 1, 1, 0)", x.waste(-1, 1, 1, 0), UNKNOWN);
        due("21 p 0", x.waste(0, 0, 1, 0), OUTSIDE);
        due("21 p 21", x.waste(0, 21, 1, 0), OUTSIDE);
        due("21 q 0", x.waste(0, 1, 0, 0), OUTSIDE);
        due("21 q 21", x.waste(0, 1, 21, 0), OUTSIDE);
        due("21 what -1", x.waste(0, 1, 1, -1), OUTSIDE);
        due("21 what 2", x.waste(0, 1, 1, 2), OUTSIDE);
    }

    private static void promise22Days() {
        LentRulers x = new LentRulers();
        x.week(0, 9);
        x.week(1, -4);
        x.week(2, -3);
        x.week(3, 5);
        x.week(4, -6);
        // 60 69 65 62 67 61 61 61
        due("22 one day", x.days(0, 1, 0), 0);
        due("22 one day, first", x.days(7, 1, 1), 0);
        due("22 two of five", x.days(4, 2, 0), 2);
        due("22 two of five, first", x.days(4, 2, 1), 0);
        due("22 two of eight", x.days(7, 2, 0), 0);
        due("22 two of eight, first", x.days(7, 2, 1), 5);
        due("22 four of eight", x.days(7, 4, 0), 1);
        due("22 four of eight, first", x.days(7, 4, 1), 0);
        due("22 three of five", x.days(4, 3, 0), 4);
        due("22 three of five, first", x.days(4, 3, 1), 1);
        due("22 all of five", x.days(4, 5, 0), 9);
        due("22 m -1", x.days(-1, 1, 0), OUTSIDE);
        due("22 m 61", x.days(61, 1, 0), OUTSIDE);
        due("22 m BIG", x.days(BIG, 1, 0), OUTSIDE);
        due("22 r 0", x.days(5, 0, 0), OUTSIDE);
        due("22 r more than days", x.days(5, 7, 0), OUTSIDE);
        due("22 r all days", x.days(5, 6, 0), 9);
        due("22 r 11", x.days(60, 11, 0), OUTSIDE);
        due("22 what -1", x.days(5, 1, -1), OUTSIDE);
        due("22 what 2", x.days(5, 1, 2), OUTSIDE);
    }

    private static void promise23Seen() {
        LentRulers x = new LentRulers();
        due("23 day -1", x.seen(-1, 1), OUTSIDE);
        due("23 day 61", x.seen(61, 1), OUTSIDE);
        due("23 v 0", x.seen(0, 0), OUTSIDE);
        due("23 v 201", x.seen(0, 201), OUTSIDE);
        due("23 seen(60, 200)", x.seen(60, 200), 1);
        for (int i = 2; i <= 8; i++) {
            due("23 seen(0, 1)", x.seen(0, 1), i);
        }
        due("23 one too many", x.seen(0, 1), FULL);
        due("23 OUTSIDE before FULL", x.seen(61, 1), OUTSIDE);
        due("23 SIGHTS", x.told(3), 8);
    }

    private static void promise24Forget() {
        LentRulers x = new LentRulers();
        x.seen(0, 5);
        x.seen(1, 5);
        due("24 forget()", x.forget(), 2);
        due("24 forget() again", x.forget(), 0);
        due("24 all LAWS fit", x.fits(-1), 3800);
        due("24 room again", x.seen(0, 7), 1);
        due("24 what was is gone", x.fits(-1), 19);
    }

    private static void promise25Fits() {
        LentRulers x = new LentRulers();
        due("25 all", x.fits(-1), 3800);
        due("25 rising", x.fits(19), 200);
        due("25 i -2", x.fits(-2), NONE);
        due("25 i SMALL", x.fits(SMALL), NONE);
        due("25 i BIG", x.fits(BIG), NONE);
        x.seen(1, 5);
        // b 4 and a 1, down to b -9 and a 14.
        due("25 how many", x.fits(-1), 14);
        due("25 first", x.fits(0), 113);
        due("25 last", x.fits(13), 1400);
        due("25 none more", x.fits(14), NONE);
        x.forget();
        x.seen(60, 1);
        // b -9 to -4: all of a; b -3: a 1 to 181; -2: to 121; -1: to 61; 0: 1.
        due("25 held at 1", x.fits(-1), 6 * 200 + 181 + 121 + 61 + 1);
        x.forget();
        x.seen(60, 200);
        // b 4 to 9: all; 3: a from 20; 2: from 80; 1: from 140; 0: 200.
        due("25 held at 200", x.fits(-1), 6 * 200 + 181 + 121 + 61 + 1);
        due("25 first at 200", x.fits(0), 113);
        x.seen(60, 199);
        due("25 not both", x.fits(-1), 0);
        due("25 none", x.fits(0), NONE);
    }

    private static void promise26Ask() {
        LentRulers x = new LentRulers();
        due("26 day 0 tells a", x.ask(0), 0);
        due("26 19 are left", x.ask(1), 19);
        x.seen(0, 60);
        due("26 day 1 tells b", x.ask(0), 1);
        due("26 one is left", x.ask(1), 1);
        x.seen(1, 63);
        due("26 one LAW, any day", x.ask(0), 0);
        x.seen(2, 60);
        due("26 no LAW", x.ask(0), NONE);
        due("26 no LAW, how many", x.ask(1), NONE);
        due("26 ask(2)", x.ask(2), OUTSIDE);
        due("26 ask(-1)", x.ask(-1), OUTSIDE);
        x.forget();
        x.seen(60, 1);
        due("26 held at 1", x.ask(1), 10);
        due("26 held at 1, day", x.ask(0), 0);
        x.forget();
        x.seen(0, 200);
        // All with b 0 to 9 are 200 for good: the rest differ from day 1 on.
        due("26 what can not be told apart", x.ask(1), 10);
        due("26 its day", x.ask(0), 1);
        x.forget();
        x.seen(0, 5);
        // b -4 and less are 1 on day 1, 6 of them; on later days more.
        due("26 held low", x.ask(1), 6);
        due("26 held low, day", x.ask(0), 1);
    }

    private static void promise27Settle() {
        LentRulers x = new LentRulers();
        x.one(0, 0, 0, 200);
        due("27 settle(0, 0)", x.settle(0, 0), 200);
        due("27 settle(0, 1)", x.settle(0, 1), 106);
        due("27 settle(5, 1)", x.settle(5, 1), 106);
        due("27 settle(1, 1)", x.settle(1, 1), 106);
        due("27 settle(2, 1)", x.settle(2, 1), 60);
        due("27 settle(2, 2)", x.settle(2, 2), 75);
        due("27 settle(0, 2)", x.settle(0, 2), 106);
        due("27 nobody's RULER changes", x.told(42), 200);
        due("27 settle(6, 100)", x.settle(6, 100), UNKNOWN);
        due("27 settle(-1, 0)", x.settle(-1, 0), UNKNOWN);
        due("27 settle(0, -1)", x.settle(0, -1), OUTSIDE);
        due("27 settle(0, 100)", x.settle(0, 100), OUTSIDE);
        x.inch(50);
        due("27 the INCH of who has none", x.settle(3, 0), 50);
    }

    private static void promise28Settled() {
        LentRulers x = new LentRulers();
        due("28 nothing ever changes", x.settled(), 0);
        x.one(3, 0, 0, 61);
        // 60 61 60 becomes 60 60 60 by cutting.
        due("28 once", x.settled(), 1);
        x.one(3, 0, 0, 62);
        due("28 once by two", x.settled(), 1);
        x.one(3, 0, 0, 63);
        // 61 61 61 among 60, then 60 61 60, then 60.
        due("28 three times", x.settled(), 3);
        due("28 still behind 3", x.settle(3, 3), 60);
        due("28 not behind 2", x.settle(3, 2), 61);
    }

    private static void promise29Halves() {
        LentRulers x = new LentRulers();
        due("29 nothing", x.halves(0, 1, 0), 0);
        due("29 nothing, first", x.halves(0, 1, 1), NONE);
        due("29 one", x.halves(1, 9, 0), 1);
        due("29 one is halved to nothing", x.halves(1, 9, 1), 0);
        due("29 all is cut off", x.halves(9, 9, 1), 9);
        due("29 ten", x.halves(10, 9, 0), 0);
        due("29 ten, first", x.halves(10, 9, 1), NONE);
        due("29 eleven", x.halves(11, 9, 1), 1);
        due("29 twenty is halved", x.halves(20, 9, 1), 0);
        due("29 n -1", x.halves(-1, 1, 0), OUTSIDE);
        due("29 n 201", x.halves(201, 1, 0), OUTSIDE);
        due("29 k 0", x.halves(1, 0, 0), OUTSIDE);
        due("29 k 10", x.halves(1, 10, 0), OUTSIDE);
        due("29 what -1", x.halves(1, 1, -1), OUTSIDE);
        due("29 what 2", x.halves(1, 1, 2), OUTSIDE);
    }

    private static void promise30Shake() {
        LentRulers x = new LentRulers();
        due("30 surely, upper", x.shake(12, 10, 0, 12, 0), 1);
        due("30 surely, lower", x.shake(12, 10, 0, 12, 1), 1);
        due("30 never, upper", x.shake(3, 2, 2, 4, 0), 0);
        due("30 never, lower", x.shake(3, 2, 2, 4, 1), 1);
        due("30 k 0", x.shake(5, 1, 1, 0, 0), 1);
        // 2 days by 1 and 2 tenths: off by 2 is 1 + 4 of 100.
        due("30 either way, upper", x.shake(2, 1, 2, 2, 0), 1);
        due("30 either way, lower", x.shake(2, 1, 2, 2, 1), 20);
        // off by 1: 2 times 7 times 3.
        due("30 or more, upper", x.shake(2, 1, 2, 1, 0), 47);
        due("30 or more, lower", x.shake(2, 1, 2, 1, 1), 100);
        due("30 n -1", x.shake(-1, 1, 1, 1, 0), LOST_OUTSIDE);
        due("30 n 13", x.shake(13, 1, 1, 1, 0), LOST_OUTSIDE);
        due("30 a -1", x.shake(1, -1, 1, 1, 0), LOST_OUTSIDE);
        due("30 a 11", x.shake(1, 11, 0, 1, 0), LOST_OUTSIDE);
        due("30 b -1", x.shake(1, 1, -1, 1, 0), LOST_OUTSIDE);
        due("30 b 11", x.shake(1, 0, 11, 1, 0), LOST_OUTSIDE);
        due("30 both together", x.shake(1, 5, 6, 1, 0), LOST_OUTSIDE);
        due("30 both together, 10", x.shake(1, 5, 5, 1, 0), 1);
        due("30 k -1", x.shake(1, 1, 1, -1, 0), LOST_OUTSIDE);
        due("30 k 13", x.shake(1, 1, 1, 13, 0), LOST_OUTSIDE);
        due("30 part -1", x.shake(1, 1, 1, 1, -1), LOST_OUTSIDE);
        due("30 part 2", x.shake(1, 1, 1, 1, 2), LOST_OUTSIDE);
    }

    private static void promise31Year() {
        LentRulers x = new LentRulers();
        // x is 74: of ONE 2, 12 left over by 8 is 4, n is 2.
        due("31 the INCH is 2 less", x.year(0, 1, 0), 58);
        // then 5624: of ONE 2, 937 left over by 8 is 1: he has nothing to sell.
        due("31 what can not be is left out", x.year(0, 2, 0), 58);
        due("31 coins", x.year(0, 2, 1), 600);
        due("31 bridges", x.year(0, 2, 2), 0);
        x.one(2, 0, 99999, 1);
        due("31 from all as it is", x.year(0, 2, 1), 501);
        Checks.write(x, "<9");
        due("31 the PAD is not in it", x.year(0, 1, 0), 58);
        due("31 nothing is done", x.told(1), 60);
        due("31 the pad stays", x.told(0), 2);
        x.bridge(0, 1);
        Checks.write(x, "A(01");
        x.done();
        due("31 a bridge that has met", x.year(0, 1, 2), 1);
        due("31 seed -1", x.year(-1, 1, 0), OUTSIDE);
        due("31 seed 10000", x.year(10000, 1, 0), OUTSIDE);
        due("31 m 0", x.year(0, 0, 0), OUTSIDE);
        due("31 m 100", x.year(0, 100, 0), OUTSIDE);
        due("31 what -1", x.year(0, 1, -1), OUTSIDE);
        due("31 what 3", x.year(0, 1, 3), OUTSIDE);
    }

    /** All that is told, but of the pad. */
    private static String toldOf(LentRulers x) {
        StringBuilder text = new StringBuilder();
        for (int what = 1; what < 140; what++) {
            text.append(x.told(what)).append(' ');
        }
        return text.append(x.fits(-1)).append(' ').append(x.fits(0)).toString();
    }

    private static LentRulers changedEverywhere() {
        LentRulers x = new LentRulers();
        x.inch(77);
        for (int day = 0; day < 7; day++) {
            x.week(day, day - 3);
        }
        for (int one = 0; one < 6; one++) {
            x.one(one, 10 + one, 2000 + one, 30 + one);
        }
        for (int stick = 0; stick < 8; stick++) {
            x.stick(stick, 1000 + stick);
        }
        for (int bridge = 0; bridge < 4; bridge++) {
            x.bridge(bridge, 5000 + bridge);
        }
        Checks.write(x, "..A(01A(12A(23A(34B)01B)12B)23B)34");
        x.done();
        x.seen(3, 90);
        x.seen(4, 95);
        return x;
    }

    private static void promise32Image() {
        LentRulers x = new LentRulers();
        due("32 image(2)", x.image(2), OUTSIDE);
        due("32 image(-1)", x.image(-1), OUTSIDE);
        due("32 image(0)", x.image(0), 1);
        x.inch(61);
        due("32 image(1)", x.image(1), 1);
        x.inch(62);
        due("32 image(0) anew", x.image(0), 1);
        x.inch(63);
        x.restore(1);
        due("32 the second", x.told(1), 61);
        x.restore(0);
        due("32 the first, anew", x.told(1), 62);
    }

    private static void promise33Restore() {
        LentRulers x = changedEverywhere();
        due("33 restore(0), not kept", x.restore(0), STATE);
        due("33 restore(2)", x.restore(2), OUTSIDE);
        due("33 restore(-1)", x.restore(-1), OUTSIDE);
        x.image(1);
        due("33 the other was not kept", x.restore(0), STATE);
        String was = toldOf(x);
        Checks.write(x, "...A+1A(01B)15A=Bx.A/09");
        x.done();
        for (int one = 0; one < 6; one++) {
            x.one(one, 1, 1, 1);
        }
        for (int i = 0; i < 8; i++) {
            x.stick(i, 1);
            x.week(i, 1);
            x.bridge(i, 1);
        }
        x.forget();
        x.seen(9, 9);
        Checks.write(x, "A+1.");
        CHECKS.holds("33 it was changed", !was.equals(toldOf(x)));
        due("33 restore(1)", x.restore(1), 1);
        CHECKS.holds("33 it is as it was", was.equals(toldOf(x)));
        due("33 the PAD stays", x.told(0), 4);
        x.inch(9);
        due("33 restore(1) again", x.restore(1), 1);
        CHECKS.holds("33 it is as it was, again", was.equals(toldOf(x)));
    }

    private static void promise34Told() {
        LentRulers x = changedEverywhere();
        Checks.write(x, "A+1");
        due("34 signs", x.told(0), 3);
        due("34 inch", x.told(1), 77 - 3 - 2);
        due("34 day", x.told(2), 2);
        due("34 sights", x.told(3), 2);
        for (int day = 0; day < 7; day++) {
            due("34 week " + day, x.told(10 + day), 6 + day);
        }
        for (int stick = 0; stick < 8; stick++) {
            due("34 stick " + stick, x.told(20 + stick), 1000 + stick);
        }
        for (int one = 0; one < 6; one++) {
            due("34 purse " + one, x.told(40 + 10 * one), 10 + one);
            due("34 cloth " + one, x.told(41 + 10 * one), 2000 + one);
            due("34 ruler " + one, x.told(42 + 10 * one), 30 + one);
            due("34 measure " + one, x.told(43 + 10 * one), 30 + one);
        }
        for (int bridge = 0; bridge < 4; bridge++) {
            due("34 span " + bridge, x.told(100 + 10 * bridge), 5000 + bridge);
            due("34 west " + bridge, x.told(101 + 10 * bridge), 30 * (1 + bridge));
            due("34 east " + bridge, x.told(102 + 10 * bridge), 31 * (1 + bridge));
        }
        x.one(5, 0, 0, 0);
        due("34 the MEASURE of who has no RULER", x.told(93), 72);
        int[] outside = {SMALL, -1, 4, 9, 17, 19, 28, 39, 44, 49, 54, 94, 99, 103, 109, 113, 133, 139, 140, BIG};
        for (int what : outside) {
            due("34 told(" + what + ")", x.told(what), OUTSIDE);
        }
    }
}
