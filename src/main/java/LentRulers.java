import java.util.Arrays;

/** The realm of lent rulers: an inch by hairs, people, sticks, bridges, weeks told as small texts. */
public final class LentRulers {
    public static final int NONE = -6, UNKNOWN = -1, OUTSIDE = -2, STATE = -3, FULL = -4, NO = -5;
    public static final long LOST = -1000000000000000000L;

    private static final int ONES = 6;
    private static final int STICKS = 8;
    private static final int BRIDGES = 4;
    private static final int WEEKDAYS = 7;
    private static final int MOST_INCH = 200;
    private static final int MOST_PURSE = 9999;
    private static final int MOST_CLOTH = 99999;
    private static final int MOST_STICK = 1800;
    private static final int MOST_SPAN = 99999;
    private static final int MOST_MORE = 9;
    private static final int MOST_SIGNS = 60;
    private static final int MOST_SIGHTS = 8;
    private static final int LAST_DAY = 999;
    private static final int LAST_LAW_DAY = 60;
    private static final int LAST_CHOICE_DAY = 60;
    private static final int MOST_AHEAD = 99;
    private static final int MOST_PIECE = 20;
    private static final int MOST_HALVED = 200;
    private static final int MOST_SHAKES = 12;
    private static final int TENTHS = 10;

    // An act's kind is the sign that stands for it on the pad.
    private static final int BUY = '+';
    private static final int SELL = '-';
    private static final int CUT = '/';
    private static final int FROM_WEST = '(';
    private static final int FROM_EAST = ')';
    private static final int COPY = '=';
    private static final int DROP = 'x';
    private static final int LESS = '<';
    private static final int MORE = '>';
    private static final int DAY_ENDS = '.';

    private static final int[] YEAR_KINDS = {BUY, SELL, FROM_WEST, FROM_EAST, LESS, MORE, COPY, DAY_ENDS};

    private final Realm realm;
    private final Image firstImage;
    private final Image secondImage;
    private final Pad pad;
    private final Weeks weeks;
    private final Ahead ahead;
    private final Laws laws;
    private final Ring ring;
    private final Turns turns;
    private final Hand hand;

    public LentRulers() {
        realm = new Realm();
        firstImage = new Image();
        secondImage = new Image();
        pad = new Pad();
        weeks = new Weeks();
        ahead = new Ahead();
        laws = new Laws();
        ring = new Ring();
        turns = new Turns();
        hand = new Hand();
    }

    // ---- 1 the inch, ones, bridges, weeks

    public int inch(int v) {
        if (!within(v, 1, MOST_INCH)) {
            return OUTSIDE;
        }
        int old = realm.inch;
        realm.inch = v;
        return old;
    }

    public int week(int day, int more) {
        if (!within(day, 0, WEEKDAYS - 1) || !within(more, -MOST_MORE, MOST_MORE)) {
            return OUTSIDE;
        }
        int old = realm.week[day];
        realm.week[day] = more;
        return old + MOST_MORE;
    }

    public int one(int one, int purse, int cloth, int ruler) {
        if (!isOne(one)) {
            return UNKNOWN;
        }
        if (!within(purse, 0, MOST_PURSE) || !within(cloth, 0, MOST_CLOTH) || !within(ruler, 0, MOST_INCH)) {
            return OUTSIDE;
        }
        int old = realm.purse[one];
        realm.purse[one] = purse;
        realm.cloth[one] = cloth;
        realm.ruler[one] = ruler;
        return old;
    }

    public int stick(int stick, int v) {
        if (!isStick(stick)) {
            return UNKNOWN;
        }
        if (!within(v, 0, MOST_STICK)) {
            return OUTSIDE;
        }
        int old = realm.stick[stick];
        realm.stick[stick] = v;
        return old;
    }

    public int bridge(int bridge, int span) {
        if (!isBridge(bridge)) {
            return UNKNOWN;
        }
        if (!within(span, 1, MOST_SPAN)) {
            return OUTSIDE;
        }
        int old = realm.span[bridge];
        realm.span[bridge] = span;
        realm.west[bridge] = 0;
        realm.east[bridge] = 0;
        return old;
    }

    public int say(int sign) {
        if (!within(sign, 33, 126)) {
            return OUTSIDE;
        }
        return pad.write(sign) ? pad.count : FULL;
    }

    public int wipe() {
        return pad.clear();
    }

    public int fault() {
        return pad.read();
    }

    // ---- 2 weeks

    public int judge(int what) {
        if (!within(what, 0, 1)) {
            return OUTSIDE;
        }
        if (!weeks.tryOut(realm, pad)) {
            return NO;
        }
        return what == 0 ? weeks.stuckAct : weeks.why;
    }

    public int done() {
        if (!allCanBe()) {
            return NO;
        }
        realm.become(weeks.trial);
        pad.clear();
        return weeks.acts;
    }

    public int behind(int one, int what) {
        if (!isOne(one)) {
            return UNKNOWN;
        }
        if (!within(what, 0, 2)) {
            return OUTSIDE;
        }
        return allCanBe() ? weeks.trial.ofOne(one, what) : NO;
    }

    public int lies(int stick) {
        if (!isStick(stick)) {
            return UNKNOWN;
        }
        return allCanBe() ? weeks.trial.stick[stick] : NO;
    }

    public int built(int bridge, int what) {
        if (!isBridge(bridge)) {
            return UNKNOWN;
        }
        if (!within(what, 0, 2)) {
            return OUTSIDE;
        }
        if (!allCanBe()) {
            return NO;
        }
        if (what == 2) {
            return weeks.trial.overlap(bridge);
        }
        return what == 0 ? weeks.trial.west[bridge] : weeks.trial.east[bridge];
    }

    public int then(int what) {
        if (!within(what, 0, 3)) {
            return OUTSIDE;
        }
        if (!allCanBe()) {
            return NO;
        }
        switch (what) {
            case 0:
                return weeks.trial.inch;
            case 1:
                return weeks.trial.day;
            case 2:
                return weeks.metAct;
            default:
                return weeks.metBridge;
        }
    }

    public long inches(int stick, int one, int part) {
        if (!isStick(stick) || !isOne(one)) {
            return LOST + UNKNOWN;
        }
        if (!within(part, 0, 1)) {
            return LOST + OUTSIDE;
        }
        return lowest(realm.stick[stick], realm.measure(one), part);
    }

    // ---- 3 days to come

    public int will(int m) {
        if (!within(m, 0, MOST_AHEAD)) {
            return OUTSIDE;
        }
        ahead.look(realm, m);
        return ahead.inches[m];
    }

    public long sure(int m, int part) {
        if (!within(m, 1, LAST_CHOICE_DAY) || !within(part, 0, 1)) {
            return LOST + OUTSIDE;
        }
        ahead.look(realm, m);
        ahead.trade(m);
        return lowest(ahead.inches[ahead.buyDay], ahead.inches[ahead.sellDay], part);
    }

    public int when(int m) {
        if (!within(m, 1, LAST_CHOICE_DAY)) {
            return OUTSIDE;
        }
        ahead.look(realm, m);
        ahead.trade(m);
        return 100 * ahead.buyDay + ahead.sellDay;
    }

    public int meet(int s, int a, int b, int r, int what) {
        if (!within(s, 1, MOST_SPAN) || !within(a, 0, MOST_PIECE) || !within(b, 0, MOST_PIECE)
                || !within(r, 1, MOST_INCH) || !within(what, 0, 1)) {
            return OUTSIDE;
        }
        ahead.look(realm, MOST_AHEAD);
        int length = 0;
        for (int day = 0; day < MOST_AHEAD; day++) {
            length += a * ahead.inches[day] + b * r;
            if (length >= s) {
                return what == 0 ? day + 1 : length - s;
            }
        }
        return NONE;
    }

    public int waste(int stick, int p, int q, int what) {
        if (!isStick(stick)) {
            return UNKNOWN;
        }
        if (!within(p, 1, MOST_PIECE) || !within(q, 1, MOST_PIECE) || !within(what, 0, 1)) {
            return OUTSIDE;
        }
        int length = realm.stick[stick];
        int first = p * realm.inch;
        int second = q * realm.inch;
        int fewest = fewestForLeastRest(length, first, second);
        return what == 1 ? fewest : restBy(length - fewest * first, second);
    }

    public int days(int m, int r, int what) {
        if (!within(m, 0, LAST_CHOICE_DAY) || !within(r, 1, Math.min(10, m + 1)) || !within(what, 0, 1)) {
            return OUTSIDE;
        }
        ahead.look(realm, m);
        int spread = ahead.leastSpread(m, r);
        return what == 0 ? spread : ahead.firstDay(m, r, spread);
    }

    // ---- 4 laws, means, turns, shakes

    public int seen(int day, int v) {
        if (!within(day, 0, LAST_LAW_DAY) || !within(v, 1, MOST_INCH)) {
            return OUTSIDE;
        }
        if (realm.sights >= MOST_SIGHTS) {
            return FULL;
        }
        realm.sightDay[realm.sights] = day;
        realm.sightInch[realm.sights] = v;
        realm.sights++;
        return realm.sights;
    }

    public int forget() {
        int old = realm.sights;
        realm.sights = 0;
        return old;
    }

    public int fits(int i) {
        laws.fit(realm);
        return i == -1 ? laws.howMany() : laws.lawAt(i);
    }

    public int ask(int what) {
        if (!within(what, 0, 1)) {
            return OUTSIDE;
        }
        laws.fit(realm);
        if (laws.howMany() == 0) {
            return NONE;
        }
        int day = laws.bestDay();
        return what == 0 ? day : laws.mostLeft(day);
    }

    public int settle(int one, int n) {
        if (!isOne(one)) {
            return UNKNOWN;
        }
        if (!within(n, 0, MOST_AHEAD)) {
            return OUTSIDE;
        }
        ring.stand(realm);
        for (int time = 0; time < n; time++) {
            ring.takeMeans();
        }
        return ring.has[one];
    }

    public int settled() {
        ring.stand(realm);
        return ring.timesTillStill();
    }

    public int halves(int n, int k, int what) {
        if (!within(n, 0, MOST_HALVED) || !within(k, 1, 9) || !within(what, 0, 1)) {
            return OUTSIDE;
        }
        int first = turns.firstMove(n, k);
        if (what == 1) {
            return first;
        }
        return first == NONE ? 0 : 1;
    }

    public long shake(int n, int a, int b, int k, int part) {
        if (!within(n, 0, MOST_SHAKES) || !within(a, 0, TENTHS) || !within(b, 0, TENTHS - a)
                || !within(k, 0, MOST_SHAKES) || !within(part, 0, 1)) {
            return LOST + OUTSIDE;
        }
        hand.spread(n, a, b);
        return lowest(hand.waysOff(k), hand.allWays(n), part);
    }

    public int year(int seed, int m, int what) {
        if (!within(seed, 0, 9999) || !within(m, 1, 99) || !within(what, 0, 2)) {
            return OUTSIDE;
        }
        weeks.drawYear(realm, seed, m);
        if (what == 0) {
            return weeks.trial.inch;
        }
        return what == 1 ? weeks.trial.coins() : weeks.trial.metBridges();
    }

    public int image(int n) {
        if (!within(n, 0, 1)) {
            return OUTSIDE;
        }
        Image image = imageOf(n);
        image.realm.become(realm);
        image.kept = true;
        return 1;
    }

    public int restore(int n) {
        if (!within(n, 0, 1)) {
            return OUTSIDE;
        }
        Image image = imageOf(n);
        if (!image.kept) {
            return STATE;
        }
        realm.become(image.realm);
        return 1;
    }

    public int told(int what) {
        if (within(what, 0, 3)) {
            return toldOfAll(what);
        }
        if (within(what, 10, 10 + WEEKDAYS - 1)) {
            return realm.week[what - 10] + MOST_MORE;
        }
        if (within(what, 20, 20 + STICKS - 1)) {
            return realm.stick[what - 20];
        }
        if (within(what, 40, 40 + 10 * ONES - 1)) {
            return realm.ofOne((what - 40) / 10, what % 10);
        }
        if (within(what, 100, 100 + 10 * BRIDGES - 1)) {
            return realm.ofBridge((what - 100) / 10, what % 10);
        }
        return OUTSIDE;
    }

    private int toldOfAll(int what) {
        switch (what) {
            case 0:
                return pad.count;
            case 1:
                return realm.inch;
            case 2:
                return realm.day;
            default:
                return realm.sights;
        }
    }

    private boolean allCanBe() {
        return weeks.tryOut(realm, pad) && weeks.stuckAct == NONE;
    }

    private Image imageOf(int n) {
        return n == 0 ? firstImage : secondImage;
    }

    private static boolean within(int v, int least, int most) {
        return v >= least && v <= most;
    }

    private static boolean isOne(int one) {
        return within(one, 0, ONES - 1);
    }

    private static boolean isStick(int stick) {
        return within(stick, 0, STICKS - 1);
    }

    private static boolean isBridge(int bridge) {
        return within(bridge, 0, BRIDGES - 1);
    }

    private static int limited(int inch) {
        return Math.max(1, Math.min(MOST_INCH, inch));
    }

    /** How many of the first pieces, the fewest, leave least over when the rest is cut by the second. */
    private static int fewestForLeastRest(int length, int first, int second) {
        int fewest = 0;
        int least = restBy(length, second);
        for (int many = 1; many <= MOST_STICK && many * first <= length; many++) {
            int rest = restBy(length - many * first, second);
            if (rest < least) {
                least = rest;
                fewest = many;
            }
        }
        return fewest;
    }

    private static int restBy(int length, int piece) {
        return piece < 1 ? length : length % piece;
    }

    private static long lowest(long upper, long lower, int part) {
        long shared = sharedDivisor(upper, lower);
        return part == 0 ? upper / shared : lower / shared;
    }

    /** The greatest shared divisor, 1 at least; a hundred steps are more than any two longs can need. */
    private static long sharedDivisor(long upper, long lower) {
        long a = upper;
        long b = lower;
        for (int step = 0; step < 100 && b != 0; step++) {
            long rest = a % b;
            a = b;
            b = rest;
        }
        return Math.max(1, a);
    }

    /** All that an image keeps, and what acts do to it. */
    private static final class Realm {
        int inch;
        int day;
        int sights;
        final int[] week;
        final int[] purse;
        final int[] cloth;
        final int[] ruler;
        final int[] stick;
        final int[] span;
        final int[] west;
        final int[] east;
        final int[] sightDay;
        final int[] sightInch;

        Realm() {
            inch = 60;
            week = new int[WEEKDAYS];
            purse = new int[ONES];
            cloth = new int[ONES];
            ruler = new int[ONES];
            stick = new int[STICKS];
            span = new int[BRIDGES];
            west = new int[BRIDGES];
            east = new int[BRIDGES];
            sightDay = new int[MOST_SIGHTS];
            sightInch = new int[MOST_SIGHTS];
            Arrays.fill(purse, 100);
            Arrays.fill(span, 600);
        }

        void become(Realm other) {
            inch = other.inch;
            day = other.day;
            sights = other.sights;
            System.arraycopy(other.week, 0, week, 0, WEEKDAYS);
            System.arraycopy(other.purse, 0, purse, 0, ONES);
            System.arraycopy(other.cloth, 0, cloth, 0, ONES);
            System.arraycopy(other.ruler, 0, ruler, 0, ONES);
            System.arraycopy(other.stick, 0, stick, 0, STICKS);
            System.arraycopy(other.span, 0, span, 0, BRIDGES);
            System.arraycopy(other.west, 0, west, 0, BRIDGES);
            System.arraycopy(other.east, 0, east, 0, BRIDGES);
            System.arraycopy(other.sightDay, 0, sightDay, 0, MOST_SIGHTS);
            System.arraycopy(other.sightInch, 0, sightInch, 0, MOST_SIGHTS);
        }

        int measure(int one) {
            return ruler[one] == 0 ? inch : ruler[one];
        }

        boolean hasMet(int bridge) {
            return west[bridge] + east[bridge] >= span[bridge];
        }

        int overlap(int bridge) {
            return hasMet(bridge) ? west[bridge] + east[bridge] - span[bridge] : NONE;
        }

        int ofOne(int one, int what) {
            switch (what) {
                case 0:
                    return purse[one];
                case 1:
                    return cloth[one];
                case 2:
                    return ruler[one];
                case 3:
                    return measure(one);
                default:
                    return OUTSIDE;
            }
        }

        int ofBridge(int bridge, int what) {
            switch (what) {
                case 0:
                    return span[bridge];
                case 1:
                    return west[bridge];
                case 2:
                    return east[bridge];
                default:
                    return OUTSIDE;
            }
        }

        int coins() {
            int all = 0;
            for (int one = 0; one < ONES; one++) {
                all += purse[one];
            }
            return all;
        }

        int metBridges() {
            int met = 0;
            for (int bridge = 0; bridge < BRIDGES; bridge++) {
                if (hasMet(bridge)) {
                    met++;
                }
            }
            return met;
        }

        int nextInch(int inchNow, int dayNow) {
            return limited(inchNow + week[Math.floorMod(dayNow, WEEKDAYS)]);
        }

        /** The least reason why an act can not be; 0: it can. */
        int hindrance(int kind, int one, int place, int n) {
            switch (kind) {
                case BUY:
                    return firstOf(purse[one] < n, cloth[one] + n * inch > MOST_CLOTH);
                case SELL:
                    return firstOf(cloth[one] < n * measure(one), purse[one] + n > MOST_PURSE);
                case FROM_WEST:
                case FROM_EAST:
                    return hasMet(place) ? 3 : 0;
                case LESS:
                    return inch == 1 ? 4 : 0;
                case MORE:
                    return inch == MOST_INCH ? 4 : 0;
                case COPY:
                    return ruler[one] == inch ? 5 : 0;
                case DROP:
                    return ruler[one] == 0 ? 5 : 0;
                case DAY_ENDS:
                    return day >= LAST_DAY ? 6 : 0;
                default:
                    return 0;
            }
        }

        private static int firstOf(boolean tooLittle, boolean tooMuch) {
            if (tooLittle) {
                return 1;
            }
            return tooMuch ? 2 : 0;
        }

        /** Does an act that nothing hinders. */
        void act(int kind, int one, int place, int n) {
            switch (kind) {
                case BUY:
                    purse[one] -= n;
                    cloth[one] += n * inch;
                    break;
                case SELL:
                    purse[one] += n;
                    cloth[one] -= n * measure(one);
                    break;
                case CUT:
                    stick[place] = n * measure(one);
                    break;
                case FROM_WEST:
                    west[place] += n * measure(one);
                    break;
                case FROM_EAST:
                    east[place] += n * measure(one);
                    break;
                case COPY:
                    ruler[one] = inch;
                    break;
                case DROP:
                    ruler[one] = 0;
                    break;
                case LESS:
                    inch = limited(inch - n);
                    break;
                case MORE:
                    inch = limited(inch + n);
                    break;
                case DAY_ENDS:
                    inch = nextInch(inch, day);
                    day++;
                    break;
                default:
                    break;
            }
        }
    }

    /** A realm that was kept, or room for one. */
    private static final class Image {
        final Realm realm;
        boolean kept;

        Image() {
            realm = new Realm();
        }
    }

    /** The signs, and the acts that were read from them. */
    private static final class Pad {
        private static final int AT_START = 0;
        private static final int AT_VERB = 1;
        private static final int AT_PLACE = 2;
        private static final int AT_NUMBER = 3;
        private static final int WRONG = 4;

        int count;
        int acts;
        final int[] signs;
        final int[] kinds;
        final int[] ones;
        final int[] places;
        final int[] numbers;

        Pad() {
            signs = new int[MOST_SIGNS];
            kinds = new int[MOST_SIGNS];
            ones = new int[MOST_SIGNS];
            places = new int[MOST_SIGNS];
            numbers = new int[MOST_SIGNS];
        }

        boolean write(int sign) {
            if (count >= MOST_SIGNS) {
                return false;
            }
            signs[count] = sign;
            count++;
            return true;
        }

        int clear() {
            int old = count;
            count = 0;
            return old;
        }

        /** Reads all signs into acts: where they can not stand, or NONE. */
        int read() {
            acts = 0;
            int state = AT_START;
            for (int place = 0; place < count && acts < MOST_SIGNS; place++) {
                state = afterSign(state, signs[place]);
                if (state == WRONG) {
                    return place;
                }
            }
            return state == AT_START ? NONE : count;
        }

        private int afterSign(int state, int sign) {
            switch (state) {
                case AT_START:
                    return begin(sign);
                case AT_VERB:
                    return readVerb(sign);
                case AT_PLACE:
                    return readPlace(sign);
                default:
                    return readNumber(sign);
            }
        }

        private int begin(int sign) {
            ones[acts] = 0;
            places[acts] = 0;
            numbers[acts] = 0;
            kinds[acts] = sign;
            if (within(sign, 'A', 'F')) {
                ones[acts] = sign - 'A';
                return AT_VERB;
            }
            if (sign == LESS || sign == MORE) {
                return AT_NUMBER;
            }
            return sign == DAY_ENDS ? end() : WRONG;
        }

        private int readVerb(int sign) {
            kinds[acts] = sign;
            switch (sign) {
                case BUY:
                case SELL:
                    return AT_NUMBER;
                case CUT:
                case FROM_WEST:
                case FROM_EAST:
                    return AT_PLACE;
                case COPY:
                case DROP:
                    return end();
                default:
                    return WRONG;
            }
        }

        private int readPlace(int sign) {
            int many = kinds[acts] == CUT ? STICKS : BRIDGES;
            if (!within(sign, '0', '0' + many - 1)) {
                return WRONG;
            }
            places[acts] = sign - '0';
            return AT_NUMBER;
        }

        private int readNumber(int sign) {
            if (!within(sign, '1', '9')) {
                return WRONG;
            }
            numbers[acts] = sign - '0';
            return end();
        }

        private int end() {
            acts++;
            return AT_START;
        }
    }

    /** Acts done on a realm of their own, not in fact. */
    private static final class Weeks {
        final Realm trial;
        int acts;
        int stuckAct;
        int why;
        int metAct;
        int metBridge;

        Weeks() {
            trial = new Realm();
        }

        /** Does the pad's acts on the trial, up to the first that can not be; false: there is a fault. */
        boolean tryOut(Realm now, Pad pad) {
            stuckAct = NONE;
            why = NONE;
            metAct = NONE;
            metBridge = NONE;
            if (pad.read() != NONE) {
                return false;
            }
            trial.become(now);
            acts = pad.acts;
            for (int i = 0; i < acts && stuckAct == NONE; i++) {
                tryAct(pad, i);
            }
            return true;
        }

        private void tryAct(Pad pad, int i) {
            int kind = pad.kinds[i];
            int place = pad.places[i];
            int reason = trial.hindrance(kind, pad.ones[i], place, pad.numbers[i]);
            if (reason != 0) {
                stuckAct = i;
                why = reason;
                return;
            }
            trial.act(kind, pad.ones[i], place, pad.numbers[i]);
            // Nobody builds at a bridge that has met, so one that has met behind building met by it.
            boolean building = kind == FROM_WEST || kind == FROM_EAST;
            if (building && metAct == NONE && trial.hasMet(place)) {
                metAct = i;
                metBridge = place;
            }
        }

        void drawYear(Realm now, int seed, int m) {
            trial.become(now);
            int x = seed;
            for (int i = 0; i < m; i++) {
                x = (75 * x + 74) % 65537;
                int kind = YEAR_KINDS[x / 6 % 8];
                int n = 1 + x / 48 % 9;
                int place = x / 432 % BRIDGES;
                if (trial.hindrance(kind, x % ONES, place, n) == 0) {
                    trial.act(kind, x % ONES, place, n);
                }
            }
        }
    }

    /** The inch on days to come, by the week alone. */
    private static final class Ahead {
        final int[] inches;
        private final int[] sorted;
        int buyDay;
        int sellDay;

        Ahead() {
            inches = new int[MOST_AHEAD + 1];
            sorted = new int[LAST_CHOICE_DAY + 1];
        }

        void look(Realm realm, int m) {
            inches[0] = realm.inch;
            for (int i = 1; i <= m; i++) {
                inches[i] = realm.nextInch(inches[i - 1], realm.day + i - 1);
            }
        }

        /** The days to buy and to sell for most, the least of as much. */
        void trade(int m) {
            buyDay = 0;
            sellDay = 1;
            for (int i = 0; i < m; i++) {
                for (int j = i + 1; j <= m; j++) {
                    if (inches[i] * inches[sellDay] > inches[buyDay] * inches[j]) {
                        buyDay = i;
                        sellDay = j;
                    }
                }
            }
        }

        int leastSpread(int m, int r) {
            sort(m);
            int least = MOST_INCH;
            for (int i = 0; i + r - 1 <= m; i++) {
                least = Math.min(least, sorted[i + r - 1] - sorted[i]);
            }
            return least;
        }

        private void sort(int m) {
            for (int i = 0; i <= m; i++) {
                int place = i;
                while (place > 0 && sorted[place - 1] > inches[i]) {
                    sorted[place] = sorted[place - 1];
                    place--;
                }
                sorted[place] = inches[i];
            }
        }

        /** The first day that begins a set of r days within the least spread. */
        int firstDay(int m, int r, int spread) {
            for (int first = 0; first <= m; first++) {
                if (begins(first, m, r, spread)) {
                    return first;
                }
            }
            return NONE;
        }

        // The least inch of such a set is that of one of its days, so these alone are tried.
        private boolean begins(int first, int m, int r, int spread) {
            for (int i = first; i <= m; i++) {
                int low = inches[i];
                if (within(inches[first], low, low + spread) && daysWithin(first, m, low, low + spread) >= r) {
                    return true;
                }
            }
            return false;
        }

        private int daysWithin(int first, int m, int low, int high) {
            int many = 0;
            for (int i = first; i <= m; i++) {
                if (within(inches[i], low, high)) {
                    many++;
                }
            }
            return many;
        }
    }

    /**
     * The laws that fit all sights. A sight bounds the start of a slope from one side or from both,
     * so the starts that fit a slope are always those from a least to a most one.
     */
    private static final class Laws {
        private static final int SLOPES = 19;
        private static final int STEEPEST = 9;

        private final int[] least;
        private final int[] most;
        private final int[] rise;

        Laws() {
            least = new int[SLOPES];
            most = new int[SLOPES];
            rise = new int[MOST_INCH + 1];
        }

        void fit(Realm realm) {
            for (int slope = 0; slope < SLOPES; slope++) {
                least[slope] = 1;
                most[slope] = MOST_INCH;
                for (int i = 0; i < realm.sights; i++) {
                    narrow(slope, realm.sightDay[i], realm.sightInch[i]);
                }
            }
        }

        // An inch of 1 or of 200 may have been held there, so it bounds the start from one side alone.
        private void narrow(int slope, int day, int v) {
            int start = v - (slope - STEEPEST) * day;
            if (v > 1) {
                least[slope] = Math.max(least[slope], start);
            }
            if (v < MOST_INCH) {
                most[slope] = Math.min(most[slope], start);
            }
        }

        int howMany() {
            int many = 0;
            for (int slope = 0; slope < SLOPES; slope++) {
                many += Math.max(0, most[slope] - least[slope] + 1);
            }
            return many;
        }

        int lawAt(int i) {
            int left = i;
            for (int start = 1; start <= MOST_INCH && left >= 0; start++) {
                for (int slope = 0; slope < SLOPES; slope++) {
                    if (within(start, least[slope], most[slope])) {
                        if (left == 0) {
                            return 100 * start + slope;
                        }
                        left--;
                    }
                }
            }
            return NONE;
        }

        /** The least day behind whose answer fewest laws are left at the most. */
        int bestDay() {
            int best = 0;
            int fewest = mostLeft(0);
            for (int day = 1; day <= LAST_LAW_DAY && fewest > 1; day++) {
                int left = mostLeft(day);
                if (left < fewest) {
                    fewest = left;
                    best = day;
                }
            }
            return best;
        }

        /** The most laws that tell one and the same inch for a day. */
        int mostLeft(int day) {
            Arrays.fill(rise, 0);
            int atLeast = 0;
            int atMost = 0;
            for (int slope = 0; slope < SLOPES; slope++) {
                if (least[slope] <= most[slope]) {
                    int from = least[slope] + (slope - STEEPEST) * day;
                    int to = most[slope] + (slope - STEEPEST) * day;
                    atLeast += Math.max(0, Math.min(to, 1) - from + 1);
                    atMost += Math.max(0, to - Math.max(from, MOST_INCH) + 1);
                    raise(Math.max(from, 2), Math.min(to, MOST_INCH - 1));
                }
            }
            return Math.max(highestRise(), Math.max(atLeast, atMost));
        }

        private void raise(int from, int to) {
            if (from <= to) {
                rise[from]++;
                rise[to + 1]--;
            }
        }

        private int highestRise() {
            int highest = 0;
            int here = 0;
            for (int v = 2; v < MOST_INCH; v++) {
                here += rise[v];
                highest = Math.max(highest, here);
            }
            return highest;
        }
    }

    /** All ones in a ring, who take the mean of their measures. */
    private static final class Ring {
        // All are alike behind some tens of times: the greatest can not stay beside a lesser one.
        private static final int TIMES_BOUND = 1000000;

        final int[] has;
        private final int[] next;

        Ring() {
            has = new int[ONES];
            next = new int[ONES];
        }

        void stand(Realm realm) {
            for (int one = 0; one < ONES; one++) {
                has[one] = realm.measure(one);
            }
        }

        /** One time; whether something changed. */
        boolean takeMeans() {
            boolean changed = false;
            for (int one = 0; one < ONES; one++) {
                next[one] = (has[(one + ONES - 1) % ONES] + has[one] + has[(one + 1) % ONES]) / 3;
                changed = changed || next[one] != has[one];
            }
            System.arraycopy(next, 0, has, 0, ONES);
            return changed;
        }

        int timesTillStill() {
            int times = 0;
            while (times < TIMES_BOUND && takeMeans()) {
                times++;
            }
            return times;
        }
    }

    /** A stick cut and halved by turns. */
    private static final class Turns {
        private final int[] moves;

        Turns() {
            moves = new int[MOST_HALVED + 1];
        }

        /** The least move that wins, 0 being to halve; NONE: there is none. */
        int firstMove(int n, int k) {
            for (int length = 0; length <= n; length++) {
                moves[length] = winningMove(length, k);
            }
            return moves[n];
        }

        private int winningMove(int length, int k) {
            if (length == 0) {
                return NONE;
            }
            if (moves[length / 2] == NONE) {
                return 0;
            }
            for (int cut = 1; cut <= k && cut <= length; cut++) {
                if (moves[length - cut] == NONE) {
                    return cut;
                }
            }
            return NONE;
        }
    }

    /** A shaking hand: by how many ways, of ten a day, the inch is so much off. */
    private static final class Hand {
        private static final int PLACES = 2 * MOST_SHAKES + 1;

        private final long[] ways;
        private final long[] next;

        Hand() {
            ways = new long[PLACES];
            next = new long[PLACES];
        }

        void spread(int n, int a, int b) {
            Arrays.fill(ways, 0);
            ways[MOST_SHAKES] = 1;
            for (int day = 0; day < n; day++) {
                for (int place = 0; place < PLACES; place++) {
                    next[place] = ways[place] * (TENTHS - a - b) + waysAt(place + 1) * a + waysAt(place - 1) * b;
                }
                System.arraycopy(next, 0, ways, 0, PLACES);
            }
        }

        private long waysAt(int place) {
            return within(place, 0, PLACES - 1) ? ways[place] : 0;
        }

        long waysOff(int k) {
            long off = 0;
            for (int place = 0; place < PLACES; place++) {
                if (Math.abs(place - MOST_SHAKES) >= k) {
                    off += ways[place];
                }
            }
            return off;
        }

        long allWays(int n) {
            long all = 1;
            for (int day = 0; day < n; day++) {
                all *= TENTHS;
            }
            return all;
        }
    }
}
