/** The edges of the terms about the inch, ones, bridges and weeks, and of promises 1 to 9. */
final class RealmEdges {
    private static final int NONE = -6;
    private static final int UNKNOWN = -1;
    private static final int OUTSIDE = -2;
    private static final int STATE = -3;
    private static final int FULL = -4;
    private static final int NO = -5;
    private static final long LOST = -1000000000000000000L;
    private static final int SMALL = Integer.MIN_VALUE;
    private static final int BIG = Integer.MAX_VALUE;

    private final Sentences s;

    RealmEdges(Sentences s) {
        this.s = s;
    }

    void all() {
        refused();
        numbers();
        acts();
        faults();
        promises();
    }

    private static LentRulers writing(String text) {
        return writing(new LentRulers(), text);
    }

    private static LentRulers writing(LentRulers x, String text) {
        Checks.write(x, text);
        return x;
    }

    private static LentRulers inchOf(int inch) {
        LentRulers x = new LentRulers();
        x.inch(inch);
        return x;
    }

    // ---- refusals

    private void refused() {
        whichIsFirst();
        nothingChanges();
        fractions();
    }

    private void whichIsFirst() {
        s.terms("Calls that are refused answer, the first of these that fits: UNKNOWN -1 (there is no such"
                + " ONE, STICK, BRIDGE), OUTSIDE -2 (another number is not as told), NO -5 (as told),"
                + " STATE -3 (as told), FULL -4.");
        s.due("UNKNOWN", LentRulers.UNKNOWN, -1);
        s.due("OUTSIDE", LentRulers.OUTSIDE, -2);
        s.due("NO", LentRulers.NO, -5);
        s.due("STATE", LentRulers.STATE, -3);
        s.due("FULL", LentRulers.FULL, -4);
        LentRulers x = writing("A");
        s.due("UNKNOWN, OUTSIDE and NO of a ONE", x.behind(6, 3), UNKNOWN);
        s.due("OUTSIDE and NO of a ONE", x.behind(5, 3), OUTSIDE);
        s.due("NO of a ONE", x.behind(5, 2), NO);
        s.due("UNKNOWN and NO of a STICK", x.lies(8), UNKNOWN);
        s.due("NO of a STICK", x.lies(7), NO);
        s.due("UNKNOWN, OUTSIDE and NO of a BRIDGE", x.built(4, 3), UNKNOWN);
        s.due("OUTSIDE and NO of a BRIDGE", x.built(3, 3), OUTSIDE);
        s.due("NO of a BRIDGE", x.built(3, 2), NO);
        s.due("OUTSIDE and NO of a judge", x.judge(2), OUTSIDE);
        s.due("OUTSIDE and STATE", x.restore(2), OUTSIDE);
        s.due("STATE", x.restore(1), STATE);
        writing(x, ".".repeat(60));
        s.due("OUTSIDE and FULL", x.say(127), OUTSIDE);
        s.due("FULL", x.say(126), FULL);
        s.due("UNKNOWN and OUTSIDE where nothing else can be", x.settle(6, 100), UNKNOWN);
    }

    private void nothingChanges() {
        s.terms("They change nothing.");
        LentRulers x = busy();
        x.inch(0);
        x.week(7, 3);
        x.week(3, 10);
        x.one(6, 1, 1, 1);
        x.one(2, 1, 1, 201);
        x.one(2, 1, 100000, 1);
        x.stick(8, 1);
        x.stick(2, 1801);
        x.bridge(4, 1);
        x.bridge(2, 0);
        x.say(32);
        x.done();
        x.seen(1, 1);
        x.image(2);
        x.restore(2);
        x.restore(1);
        s.holds("all is as it was", Snapshot.withImages(x).equals(Snapshot.withImages(busy())));
    }

    /** A fault on the pad, eight sights, an image of two. */
    private static LentRulers busy() {
        LentRulers x = writing("A(21B)32C=.");
        x.done();
        x.image(0);
        x.one(2, 50, 60, 70);
        x.stick(2, 80);
        for (int i = 0; i < 8; i++) {
            x.seen(2, 9);
        }
        return writing(x, "A+1A");
    }

    private void fractions() {
        s.terms("Fractions are told in lowest terms by part: 0 the upper, 1 the lower number;"
                + " refused with LOST and the refusal.");
        LentRulers x = new LentRulers();
        x.stick(0, 90);
        s.due("90 by 60, upper", x.inches(0, 0, 0), 3);
        s.due("90 by 60, lower", x.inches(0, 0, 1), 2);
        s.due("0 by 60, upper", x.inches(1, 0, 0), 0);
        s.due("0 by 60, lower", x.inches(1, 0, 1), 1);
        s.due("LOST", LentRulers.LOST, LOST);
        s.due("part -1", x.inches(0, 0, -1), LOST - 2);
        s.due("part 2", x.inches(0, 0, 2), LOST - 2);
        s.due("UNKNOWN", x.inches(8, 0, 0), LOST - 1);
        s.due("part -1 of sure", x.sure(1, -1), LOST - 2);
        s.due("part 2 of sure", x.sure(1, 2), LOST - 2);
        s.due("part -1 of shake", x.shake(1, 1, 1, 1, -1), LOST - 2);
        s.due("part 2 of shake", x.shake(1, 1, 1, 1, 2), LOST - 2);
        s.due("shake of 4 of 10, upper", x.shake(1, 2, 2, 1, 0), 2);
        s.due("shake of 4 of 10, lower", x.shake(1, 2, 2, 1, 1), 5);
        s.due("sure of 60 by 69, upper", rising(x).sure(1, 0), 20);
        s.due("sure of 60 by 69, lower", x.sure(1, 1), 23);
    }

    private static LentRulers rising(LentRulers x) {
        x.week(0, 9);
        return x;
    }

    // ---- numbers

    private void numbers() {
        inch();
        week();
        ones();
        measure();
        sticks();
        bridges();
        s.terms("It is day 0 at first.");
        s.due("day", new LentRulers().told(2), 0);
    }

    private void inch() {
        s.terms("The INCH is 1 to 200 HAIRS (60 at first).");
        LentRulers x = new LentRulers();
        s.due("at first", x.told(1), 60);
        s.due("inch(0)", x.inch(0), OUTSIDE);
        s.due("inch(201)", x.inch(201), OUTSIDE);
        s.due("inch(1)", x.inch(1), 60);
        s.due("it is 1", x.told(1), 1);
        s.due("inch(200)", x.inch(200), 1);
        s.due("it is 200", x.told(1), 200);
        s.due("inch(SMALL)", x.inch(SMALL), OUTSIDE);
        s.due("inch(BIG)", x.inch(BIG), OUTSIDE);
        s.due("it is 200 still", x.told(1), 200);
    }

    private void week() {
        s.terms("WEEK: for each of days 0 to 6 how much more the INCH is behind a day of that number left over by 7"
                + " (-9 to 9; 0 at first).");
        LentRulers x = new LentRulers();
        for (int day = 0; day < 7; day++) {
            s.due("at first", x.told(10 + day), 9);
        }
        s.due("day -1", x.week(-1, 0), OUTSIDE);
        s.due("day 7", x.week(7, 0), OUTSIDE);
        s.due("-10", x.week(0, -10), OUTSIDE);
        s.due("10", x.week(6, 10), OUTSIDE);
        s.due("9", x.week(0, 9), 9);
        s.due("-9", x.week(6, -9), 9);
        wrappingWeek();
    }

    private void wrappingWeek() {
        // 60 behind nothing; 69 behind day 0, 60 behind day 6, and again behind days 7 and 13.
        int[] inches = {60, 69, 69, 69, 69, 69, 69, 60, 69, 69, 69, 69, 69, 69, 60, 69};
        for (int days = 0; days < inches.length; days++) {
            LentRulers x = new LentRulers();
            x.week(0, 9);
            x.week(6, -9);
            writing(x, ".".repeat(days));
            s.due("the INCH on day " + days, x.then(0), inches[days]);
        }
        for (int day = 0; day < 7; day++) {
            LentRulers x = new LentRulers();
            x.week(day, 1);
            s.due("ahead of the end of day " + day, x.will(day), 60);
            s.due("behind day " + day, x.will(day + 1), 61);
            s.due("behind day " + day + " and six more", x.will(day + 7), 61);
            s.due("behind day " + day + " a week later", x.will(day + 8), 62);
        }
    }

    private void ones() {
        LentRulers x = new LentRulers();
        s.terms("ONES 0 to 5 (A to F) each have");
        s.due("one(-1)", x.one(-1, 1, 1, 1), UNKNOWN);
        s.due("one(6)", x.one(6, 1, 1, 1), UNKNOWN);
        s.due("one(0)", x.one(0, 1, 1, 1), 100);
        s.due("one(5)", x.one(5, 2, 1, 1), 100);
        s.due("A is 0", writing("A+3").behind(0, 0), 97);
        s.due("F is 5", writing("F+3").behind(5, 0), 97);
        s.due("there is no @", writing("@+3").fault(), 0);
        s.due("there is no G", writing("G+3").fault(), 0);
        s.terms("a PURSE (0 to 9999 coins; 100 at first)");
        s.due("at first", new LentRulers().told(90), 100);
        s.due("-1", x.one(3, -1, 0, 0), OUTSIDE);
        s.due("10000", x.one(3, 10000, 0, 0), OUTSIDE);
        s.due("9999", x.one(3, 9999, 0, 0), 100);
        s.due("0", x.one(3, 0, 0, 0), 9999);
        s.due("it is 0", x.told(70), 0);
        s.terms("CLOTH (0 to 99999 HAIRS; 0 at first)");
        s.due("at first", new LentRulers().told(91), 0);
        s.due("-1", x.one(3, 0, -1, 0), OUTSIDE);
        s.due("100000", x.one(3, 0, 100000, 0), OUTSIDE);
        s.due("99999", x.one(3, 1, 99999, 0), 0);
        s.due("it is 99999", x.told(71), 99999);
        s.due("0", x.one(3, 2, 0, 0), 1);
        s.due("it is 0", x.told(71), 0);
        s.terms("and a RULER of their own (0 to 200 HAIRS; 0, none, at first).");
        s.due("at first", new LentRulers().told(92), 0);
        s.due("-1", x.one(3, 0, 0, -1), OUTSIDE);
        s.due("201", x.one(3, 0, 0, 201), OUTSIDE);
        s.due("200", x.one(3, 3, 0, 200), 2);
        s.due("it is 200", x.told(72), 200);
        s.due("0", x.one(3, 0, 0, 0), 3);
        s.due("it is none", writing(x, "Dx").judge(1), 5);
    }

    private void measure() {
        s.terms("MEASURE of a ONE: his RULER, or the INCH, if he has none.");
        LentRulers x = new LentRulers();
        x.one(2, 0, 0, 1);
        s.due("a RULER of 1", x.told(63), 1);
        x.one(2, 0, 0, 0);
        s.due("none", x.told(63), 60);
        x.inch(61);
        s.due("none, by another INCH", x.told(63), 61);
        x.one(2, 0, 0, 200);
        x.inch(1);
        s.due("a RULER, by another INCH", x.told(63), 200);
    }

    private void sticks() {
        s.terms("STICKS 0 to 7 are LONG by 0 to 1800 HAIRS (0 at first).");
        LentRulers x = new LentRulers();
        for (int stick = 0; stick < 8; stick++) {
            s.due("at first", x.told(20 + stick), 0);
        }
        s.due("stick -1", x.stick(-1, 5), UNKNOWN);
        s.due("stick 8", x.stick(8, 5), UNKNOWN);
        s.due("-1", x.stick(0, -1), OUTSIDE);
        s.due("1801", x.stick(0, 1801), OUTSIDE);
        s.due("1800", x.stick(0, 1800), 0);
        s.due("0", x.stick(0, 0), 1800);
        s.due("stick 7", x.stick(7, 1), 0);
        s.due("the first is 0", x.told(20), 0);
        s.due("the last is 1", x.told(27), 1);
    }

    private void bridges() {
        s.terms("BRIDGES 0 to 3 have a SPAN (1 to 99999 HAIRS; 600 at first),");
        LentRulers x = new LentRulers();
        for (int bridge = 0; bridge < 4; bridge++) {
            s.due("at first", x.told(100 + 10 * bridge), 600);
        }
        s.due("bridge -1", x.bridge(-1, 5), UNKNOWN);
        s.due("bridge 4", x.bridge(4, 5), UNKNOWN);
        s.due("0", x.bridge(0, 0), OUTSIDE);
        s.due("100000", x.bridge(0, 100000), OUTSIDE);
        s.due("99999", x.bridge(0, 99999), 600);
        s.due("1", x.bridge(0, 1), 99999);
        s.due("bridge 3", x.bridge(3, 7), 600);
        s.due("the first is 1", x.told(100), 1);
        s.due("the last is 7", x.told(130), 7);
        s.terms("and are built from the WEST and from the EAST by so many HAIRS (0 at first).");
        for (int bridge = 0; bridge < 4; bridge++) {
            LentRulers y = new LentRulers();
            s.due("WEST at first", y.told(101 + 10 * bridge), 0);
            s.due("EAST at first", y.told(102 + 10 * bridge), 0);
            writing(y, "A(" + bridge + "1A)" + bridge + "2").done();
            s.due("WEST", y.told(101 + 10 * bridge), 60);
            s.due("EAST", y.told(102 + 10 * bridge), 120);
        }
    }

    // ---- acts

    private void acts() {
        pad();
        verbs();
        buying();
        selling();
        cutting();
        building();
        rulers();
        kindness();
        daysEnd();
    }

    private void pad() {
        s.terms("WEEKS are a text on a PAD (60 SIGNS at most, codes 33 to 126) of ACTS:");
        LentRulers x = new LentRulers();
        s.due("code 32", x.say(32), OUTSIDE);
        s.due("code 127", x.say(127), OUTSIDE);
        s.due("code 33", x.say(33), 1);
        s.due("code 126", x.say(126), 2);
        for (int i = 3; i <= 60; i++) {
            s.due("sign " + i, x.say('.'), i);
        }
        s.due("sign 61", x.say('.'), FULL);
        s.due("signs", x.told(0), 60);
        standBehind("", "ABCDEF<>.");
        standBehind("A+1", "ABCDEF<>.");
        standBehind("<1", "ABCDEF<>.");
        standBehind(".", "ABCDEF<>.");
        s.due("no ACTS at all", writing("").fault(), NONE);
        s.due("sixty of them", writing(".".repeat(60)).done(), 60);
    }

    /** Behind a head these signs can stand, and of all codes no others. */
    private void standBehind(String head, String signs) {
        for (int code = 33; code <= 126; code++) {
            char sign = (char) code;
            boolean stands = writing(head + sign).fault() != head.length();
            s.holds(sign + " behind \"" + head + "\"", stands == (signs.indexOf(sign) >= 0));
        }
    }

    private void verbs() {
        s.terms("a ONE's letter and:");
        for (char letter = 'A'; letter <= 'F'; letter++) {
            standBehind(String.valueOf(letter), "+-/()=x");
        }
    }

    private void buying() {
        s.terms("+ and a digit 1 to 9 (he buys so many inches by the INCH, a coin each: his CLOTH is more),");
        standBehind("A+", "123456789");
        for (int n = 1; n <= 9; n++) {
            LentRulers x = new LentRulers();
            x.one(4, 50, 1000, 33);
            writing(x, "E+" + n);
            s.due("PURSE", x.behind(4, 0), 50 - n);
            s.due("CLOTH, not by his RULER", x.behind(4, 1), 1000 + 60 * n);
            s.due("RULER", x.behind(4, 2), 33);
        }
    }

    private void selling() {
        s.terms("- and a digit 1 to 9 (he sells so many inches by his MEASURE, a coin each),");
        standBehind("A-", "123456789");
        for (int n = 1; n <= 9; n++) {
            LentRulers x = new LentRulers();
            x.one(4, 50, 1000, 33);
            writing(x, "E-" + n);
            s.due("PURSE", x.behind(4, 0), 50 + n);
            s.due("CLOTH, by his RULER", x.behind(4, 1), 1000 - 33 * n);
            x.one(4, 50, 1000, 0);
            s.due("CLOTH, by the INCH", x.behind(4, 1), 1000 - 60 * n);
        }
    }

    private void cutting() {
        s.terms("/ and a digit 0 to 7 and one 1 to 9 (that STICK is LONG then by so many inches of his MEASURE),");
        standBehind("A/", "01234567");
        standBehind("A/0", "123456789");
        standBehind("A/7", "123456789");
        for (int stick = 0; stick < 8; stick++) {
            LentRulers x = new LentRulers();
            x.one(1, 0, 0, 200);
            x.stick(stick, 7);
            writing(x, "B/" + stick + "9");
            s.due("by 9 inches of 200", x.lies(stick), 1800);
            writing(x, "B/" + stick + "9A/" + stick + "1");
            s.due("then by 1 of the INCH", x.lies(stick), 60);
            s.due("another", x.lies((stick + 1) % 8), 0);
        }
    }

    private void building() {
        s.terms("( or ), and a digit 0 to 3 and one 1 to 9 (he builds so many inches of his MEASURE at that BRIDGE,"
                + " from the WEST, from the EAST),");
        standBehind("A(", "0123");
        standBehind("A)", "0123");
        standBehind("A(0", "123456789");
        standBehind("A)3", "123456789");
        for (int bridge = 0; bridge < 4; bridge++) {
            LentRulers x = new LentRulers();
            x.one(1, 0, 0, 7);
            writing(x, "B(" + bridge + "9A)" + bridge + "1B(" + bridge + "1");
            s.due("WEST", x.built(bridge, 0), 70);
            s.due("EAST", x.built(bridge, 1), 60);
            s.due("another's WEST", x.built((bridge + 1) % 4, 0), 0);
            s.due("another's EAST", x.built((bridge + 1) % 4, 1), 0);
            s.due("it costs nothing", x.behind(1, 0), 0);
        }
    }

    private void rulers() {
        s.terms("= (his RULER is as the INCH),");
        LentRulers x = writing("C=>5");
        s.due("the INCH of then", x.behind(2, 2), 60);
        s.due("not another's", x.behind(1, 2), 0);
        s.due("anew", writing("C=>5C=").behind(2, 2), 65);
        s.due("nothing behind it", writing("C=1").fault(), 2);
        s.terms("or x (his RULER is none);");
        LentRulers y = new LentRulers();
        y.one(2, 0, 0, 44);
        y.one(1, 0, 0, 44);
        writing(y, "Cx");
        s.due("none", y.behind(2, 2), 0);
        s.due("not another's", y.behind(1, 2), 44);
        s.due("it stands small", writing("CX").fault(), 1);
        s.due("nothing behind it", writing("Cx1").fault(), 2);
    }

    private void kindness() {
        s.terms("< or > and a digit 1 to 9 (the INCH is so many HAIRS less, 1 at least, more, 200 at most);");
        standBehind("<", "123456789");
        standBehind(">", "123456789");
        for (int n = 1; n <= 9; n++) {
            s.due("less by " + n, writing("<" + n).then(0), 60 - n);
            s.due("more by " + n, writing(">" + n).then(0), 60 + n);
        }
        s.due("11 less 9", writing(inchOf(11), "<9").then(0), 2);
        s.due("10 less 9", writing(inchOf(10), "<9").then(0), 1);
        s.due("9 less 9", writing(inchOf(9), "<9").then(0), 1);
        s.due("2 less 9", writing(inchOf(2), "<9").then(0), 1);
        s.due("190 more 9", writing(inchOf(190), ">9").then(0), 199);
        s.due("191 more 9", writing(inchOf(191), ">9").then(0), 200);
        s.due("192 more 9", writing(inchOf(192), ">9").then(0), 200);
        s.due("199 more 9", writing(inchOf(199), ">9").then(0), 200);
    }

    private void daysEnd() {
        s.terms(". (a day ends: the INCH is more by WEEK, 1 at least, 200 at most; it is the next one).");
        int[][] rows = {{60, 5, 65}, {60, -5, 55}, {11, -9, 2}, {10, -9, 1}, {9, -9, 1}, {1, -9, 1}, {1, -1, 1},
            {190, 9, 199}, {191, 9, 200}, {192, 9, 200}, {200, 9, 200}, {200, 1, 200}, {1, 0, 1}, {200, 0, 200}};
        for (int[] row : rows) {
            LentRulers x = inchOf(row[0]);
            x.week(0, row[1]);
            writing(x, ".");
            s.due("the INCH of " + row[0] + " and " + row[1], x.then(0), row[2]);
            s.due("it can be", x.judge(0), NONE);
            s.due("the day", x.then(1), 1);
        }
        LentRulers x = inchOf(198);
        x.week(0, 9);
        x.week(1, -9);
        s.due("held day by day", writing(x, "..").then(0), 191);
    }

    // ---- faults

    private void faults() {
        s.terms("THE FAULT: the place (from 0 on) of the first sign that can not stand there;");
        s.due("the first sign", writing("!").fault(), 0);
        s.due("the last of sixty", writing(".".repeat(59) + "!").fault(), 59);
        s.due("the first of two", writing(".!.!").fault(), 1);
        s.due("ahead of what is missing", writing("!A").fault(), 0);
        s.due("behind a letter", writing("A1").fault(), 1);
        s.due("for a digit", writing("A+A").fault(), 2);
        s.due("for a STICK", writing("A/81").fault(), 2);
        s.due("for a BRIDGE", writing("A(41").fault(), 2);
        s.due("for a second digit", writing("A/70").fault(), 3);
        s.due("a digit too many", writing("A+11").fault(), 3);
        s.terms("the number of signs, if more must come.");
        String[] heads = {"A", "A+", "A-", "A/", "A/7", "A(", "A(3", "A)", "A)3", "<", ">"};
        for (String head : heads) {
            s.due(head, writing(head).fault(), head.length());
            s.due("." + head, writing("." + head).fault(), head.length() + 1);
            String full = ".".repeat(60 - head.length()) + head;
            s.due(full, writing(full).fault(), 60);
        }
        s.due("nothing must come behind nothing", writing("").fault(), NONE);
    }

    // ---- promises 1 to 9

    private void promises() {
        promise1();
        promises2To4();
        promises5And6();
        promises7To9();
    }

    private void promise1() {
        s.promise(1, "An INCH of 60 HAIRS; nobody has a RULER.");
        LentRulers x = new LentRulers();
        s.due("INCH", x.told(1), 60);
        for (int one = 0; one < 6; one++) {
            s.due("RULER", x.told(42 + 10 * one), 0);
            s.due("MEASURE", x.told(43 + 10 * one), 60);
        }
        s.due("no signs", x.wipe(), 0);
        s.due("no SIGHTS", x.forget(), 0);
        s.due("no IMAGE", x.restore(0), STATE);
        s.due("no second IMAGE", x.restore(1), STATE);
        x.inch(9);
        s.due("another is not touched", new LentRulers().told(1), 60);
    }

    private void promises2To4() {
        s.promise(2, "The INCH: which it was. OUTSIDE.");
        LentRulers x = new LentRulers();
        s.due("first", x.inch(7), 60);
        s.due("the same again", x.inch(7), 7);
        s.due("0", x.inch(0), OUTSIDE);
        s.due("201", x.inch(201), OUTSIDE);
        s.due("a refused one does not count", x.inch(8), 7);
        s.promise(3, "WEEK: how much more behind that day (0 to 6): which it was, and 9. OUTSIDE.");
        for (int day = 0; day < 7; day++) {
            s.due("first", x.week(day, -9), 9);
            s.due("-9 and 9", x.week(day, 9), 0);
            s.due("9 and 9", x.week(day, 0), 18);
        }
        s.due("day -1", x.week(-1, 0), OUTSIDE);
        s.due("day 7", x.week(7, 0), OUTSIDE);
        s.due("-10", x.week(6, -10), OUTSIDE);
        s.due("10", x.week(0, 10), OUTSIDE);
        s.due("a refused one does not count", x.week(0, 1), 9);
        s.promise(4, "PURSE, CLOTH, RULER of a ONE: which PURSE he had. UNKNOWN; OUTSIDE.");
        for (int one = 0; one < 6; one++) {
            s.due("first", x.one(one, one, 10 + one, 20 + one), 100);
        }
        for (int one = 0; one < 6; one++) {
            s.due("CLOTH", x.told(41 + 10 * one), 10 + one);
            s.due("RULER", x.told(42 + 10 * one), 20 + one);
            s.due("PURSE", x.one(one, 0, 0, 0), one);
        }
        s.due("UNKNOWN ahead of OUTSIDE, below", x.one(-1, -1, -1, -1), UNKNOWN);
        s.due("UNKNOWN ahead of OUTSIDE, above", x.one(6, 10000, 100000, 201), UNKNOWN);
        s.due("OUTSIDE", x.one(5, 10000, 1, 1), OUTSIDE);
        s.due("a refused one does not count", x.told(91), 0);
    }

    private void promises5And6() {
        s.promise(5, "A STICK: how LONG it was. UNKNOWN; OUTSIDE.");
        LentRulers x = new LentRulers();
        for (int stick = 0; stick < 8; stick++) {
            s.due("first", x.stick(stick, 10 + stick), 0);
        }
        for (int stick = 0; stick < 8; stick++) {
            s.due("again", x.stick(stick, 0), 10 + stick);
        }
        s.due("UNKNOWN ahead of OUTSIDE, below", x.stick(-1, -1), UNKNOWN);
        s.due("UNKNOWN ahead of OUTSIDE, above", x.stick(8, 1801), UNKNOWN);
        s.due("OUTSIDE", x.stick(7, 1801), OUTSIDE);
        s.promise(6, "A BRIDGE (anew, WEST 0, EAST 0): which SPAN it had. UNKNOWN; OUTSIDE.");
        writing(x, "A(01A)01A(11A)11").done();
        s.due("OUTSIDE", x.bridge(0, 0), OUTSIDE);
        s.due("UNKNOWN ahead of OUTSIDE, below", x.bridge(-1, 0), UNKNOWN);
        s.due("UNKNOWN ahead of OUTSIDE, above", x.bridge(4, 100000), UNKNOWN);
        s.due("WEST stays when refused", x.told(101), 60);
        s.due("EAST stays when refused", x.told(102), 60);
        s.due("the same SPAN", x.bridge(0, 600), 600);
        s.due("WEST anew", x.told(101), 0);
        s.due("EAST anew", x.told(102), 0);
        s.due("another's WEST", x.told(111), 60);
        s.due("another's EAST", x.told(112), 60);
        x.bridge(2, 1);
        writing(x, "A(21").done();
        s.due("it has met", writing(x, "A(21").judge(1), 3);
        s.due("one that has met", x.bridge(2, 2), 1);
        s.due("can be built anew", x.judge(1), NONE);
    }

    private void promises7To9() {
        s.promise(7, "A sign more: how many. OUTSIDE; FULL.");
        LentRulers x = new LentRulers();
        s.due("code 32 on an empty PAD", x.say(32), OUTSIDE);
        s.due("code -1", x.say(-1), OUTSIDE);
        s.due("code 256 and 46", x.say(256 + '.'), OUTSIDE);
        for (int i = 1; i <= 60; i++) {
            s.due("sign " + i, x.say('.'), i);
        }
        s.due("FULL", x.say('.'), FULL);
        s.due("OUTSIDE ahead of FULL, below", x.say(32), OUTSIDE);
        s.due("OUTSIDE ahead of FULL, above", x.say(127), OUTSIDE);
        s.promise(8, "Signs go: how many there were.");
        s.due("sixty", x.wipe(), 60);
        s.due("none", x.wipe(), 0);
        s.due("there is room again", x.say('A'), 1);
        s.due("what was is gone", x.fault(), 1);
        s.due("one", x.wipe(), 1);
        s.promise(9, "THE FAULT; NONE.");
        s.due("of nothing", x.fault(), NONE);
        s.due("of a whole text", writing(x, "A+1").fault(), NONE);
        s.due("of a text with a FAULT", writing(x, "A+0").fault(), 2);
        s.due("of an ACT that can not be", writing(x, "Ax").fault(), NONE);
    }
}
