import java.math.BigInteger;
import java.util.ArrayList;
import java.util.Arrays;
import java.util.HashMap;
import java.util.List;
import java.util.Map;
import java.util.regex.Matcher;
import java.util.regex.Pattern;

/**
 * A second writing of the document, by other ways than the class: acts as texts and patterns, laws one by one,
 * sets by counting at every height, chances by factorials. Slow and plain, to compare with.
 */
final class Model {
    private static final int NONE = -6;
    private static final int UNKNOWN = -1;
    private static final int OUTSIDE = -2;
    private static final int STATE = -3;
    private static final int FULL = -4;
    private static final int NO = -5;
    private static final long LOST = -1000000000000000000L;
    private static final String ACT = "[A-F](?:[+-][1-9]|/[0-7][1-9]|[()][0-3][1-9]|=|x)|[<>][1-9]|\\.";
    private static final Pattern TEXT = Pattern.compile("(?:" + ACT + ")*");

    /** Everything an image keeps. */
    static final class Land {
        int inch = 60;
        int day = 0;
        final int[] week = new int[7];
        final int[][] ones = new int[6][3];
        final int[] sticks = new int[8];
        final int[][] bridges = new int[4][3];
        final List<int[]> sights = new ArrayList<>();

        Land() {
            for (int[] one : ones) {
                one[0] = 100;
            }
            for (int[] bridge : bridges) {
                bridge[0] = 600;
            }
        }

        Land copy() {
            Land other = new Land();
            other.inch = inch;
            other.day = day;
            System.arraycopy(week, 0, other.week, 0, 7);
            for (int i = 0; i < 6; i++) {
                other.ones[i] = ones[i].clone();
            }
            System.arraycopy(sticks, 0, other.sticks, 0, 8);
            for (int i = 0; i < 4; i++) {
                other.bridges[i] = bridges[i].clone();
            }
            other.sights.addAll(sights);
            return other;
        }

        int measure(int one) {
            return ones[one][2] != 0 ? ones[one][2] : inch;
        }

        int beyond(int bridge) {
            return bridges[bridge][1] + bridges[bridge][2] - bridges[bridge][0];
        }

        void endDay() {
            inch = hold(inch + week[day % 7]);
            day++;
        }

        /** Does an act told as a text; 0, or why it can not be. */
        int act(String act) {
            int last = act.charAt(act.length() - 1) - '0';
            char head = act.charAt(0);
            if (head == '.') {
                if (day == 999) {
                    return 6;
                }
                endDay();
                return 0;
            }
            if (head == '<' || head == '>') {
                if (inch == (head == '<' ? 1 : 200)) {
                    return 4;
                }
                inch = hold(head == '<' ? inch - last : inch + last);
                return 0;
            }
            return actOf(head - 'A', act.charAt(1), act.length() > 3 ? act.charAt(2) - '0' : 0, last);
        }

        private int actOf(int who, char verb, int place, int n) {
            int[] one = ones[who];
            int hairs = n * measure(who);
            if (verb == '+') {
                if (one[0] - n < 0) {
                    return 1;
                }
                if (one[1] + n * inch >= 100000) {
                    return 2;
                }
                one[0] -= n;
                one[1] += n * inch;
            } else if (verb == '-') {
                if (one[1] - hairs < 0) {
                    return 1;
                }
                if (one[0] + n >= 10000) {
                    return 2;
                }
                one[0] += n;
                one[1] -= hairs;
            } else if (verb == '/') {
                sticks[place] = hairs;
            } else if (verb == '(' || verb == ')') {
                if (beyond(place) >= 0) {
                    return 3;
                }
                bridges[place][verb == '(' ? 1 : 2] += hairs;
            } else {
                int ruler = verb == '=' ? inch : 0;
                if (one[2] == ruler) {
                    return 5;
                }
                one[2] = ruler;
            }
            return 0;
        }
    }

    private Land land = new Land();
    private final Land[] images = new Land[2];
    private String text = "";
    private Land later;
    private int failed;
    private int why;
    private int metAct;
    private int metBridge;
    private int actsDone;

    private static int hold(int inch) {
        return inch < 1 ? 1 : inch > 200 ? 200 : inch;
    }

    private static boolean out(int v, int least, int most) {
        return v < least || v > most;
    }

    int inch(int v) {
        if (out(v, 1, 200)) {
            return OUTSIDE;
        }
        int was = land.inch;
        land.inch = v;
        return was;
    }

    int week(int day, int more) {
        if (out(day, 0, 6) || out(more, -9, 9)) {
            return OUTSIDE;
        }
        int was = land.week[day];
        land.week[day] = more;
        return was + 9;
    }

    int one(int one, int purse, int cloth, int ruler) {
        if (out(one, 0, 5)) {
            return UNKNOWN;
        }
        if (out(purse, 0, 9999) || out(cloth, 0, 99999) || out(ruler, 0, 200)) {
            return OUTSIDE;
        }
        int was = land.ones[one][0];
        land.ones[one] = new int[] {purse, cloth, ruler};
        return was;
    }

    int stick(int stick, int v) {
        if (out(stick, 0, 7)) {
            return UNKNOWN;
        }
        if (out(v, 0, 1800)) {
            return OUTSIDE;
        }
        int was = land.sticks[stick];
        land.sticks[stick] = v;
        return was;
    }

    int bridge(int bridge, int span) {
        if (out(bridge, 0, 3)) {
            return UNKNOWN;
        }
        if (out(span, 1, 99999)) {
            return OUTSIDE;
        }
        int was = land.bridges[bridge][0];
        land.bridges[bridge] = new int[] {span, 0, 0};
        return was;
    }

    int say(int sign) {
        if (out(sign, 33, 126)) {
            return OUTSIDE;
        }
        if (text.length() == 60) {
            return FULL;
        }
        text = text + (char) sign;
        return text.length();
    }

    int wipe() {
        int was = text.length();
        text = "";
        return was;
    }

    int fault() {
        for (int length = 1; length <= text.length(); length++) {
            Matcher matcher = TEXT.matcher(text.substring(0, length));
            if (!matcher.matches() && !matcher.hitEnd()) {
                return length - 1;
            }
        }
        return TEXT.matcher(text).matches() ? NONE : text.length();
    }

    private void play() {
        later = land.copy();
        failed = NONE;
        why = NONE;
        metAct = NONE;
        metBridge = NONE;
        actsDone = 0;
        Matcher matcher = Pattern.compile(ACT).matcher(text);
        while (matcher.find()) {
            boolean[] met = new boolean[4];
            for (int i = 0; i < 4; i++) {
                met[i] = later.beyond(i) >= 0;
            }
            int reason = later.act(matcher.group());
            if (reason != 0) {
                failed = actsDone;
                why = reason;
                return;
            }
            for (int i = 3; i >= 0 && (metAct == NONE || metAct == actsDone); i--) {
                if (!met[i] && later.beyond(i) >= 0) {
                    metAct = actsDone;
                    metBridge = i;
                }
            }
            actsDone++;
        }
    }

    int judge(int what) {
        if (out(what, 0, 1)) {
            return OUTSIDE;
        }
        if (fault() != NONE) {
            return NO;
        }
        play();
        return what == 0 ? failed : why;
    }

    private boolean cannot() {
        if (fault() != NONE) {
            return true;
        }
        play();
        return failed != NONE;
    }

    int done() {
        if (cannot()) {
            return NO;
        }
        land = later;
        text = "";
        return actsDone;
    }

    int behind(int one, int what) {
        if (out(one, 0, 5)) {
            return UNKNOWN;
        }
        if (out(what, 0, 2)) {
            return OUTSIDE;
        }
        return cannot() ? NO : later.ones[one][what];
    }

    int lies(int stick) {
        if (out(stick, 0, 7)) {
            return UNKNOWN;
        }
        return cannot() ? NO : later.sticks[stick];
    }

    int built(int bridge, int what) {
        if (out(bridge, 0, 3)) {
            return UNKNOWN;
        }
        if (out(what, 0, 2)) {
            return OUTSIDE;
        }
        if (cannot()) {
            return NO;
        }
        if (what < 2) {
            return later.bridges[bridge][what + 1];
        }
        return later.beyond(bridge) < 0 ? NONE : later.beyond(bridge);
    }

    int then(int what) {
        if (out(what, 0, 3)) {
            return OUTSIDE;
        }
        if (cannot()) {
            return NO;
        }
        return new int[] {later.inch, later.day, metAct, metBridge}[what];
    }

    private static long fraction(BigInteger upper, BigInteger lower, int part) {
        BigInteger shared = upper.gcd(lower);
        return (part == 0 ? upper : lower).divide(shared).longValueExact();
    }

    long inches(int stick, int one, int part) {
        if (out(stick, 0, 7) || out(one, 0, 5)) {
            return LOST - 1;
        }
        if (out(part, 0, 1)) {
            return LOST - 2;
        }
        return fraction(BigInteger.valueOf(land.sticks[stick]), BigInteger.valueOf(land.measure(one)), part);
    }

    int will(int m) {
        if (out(m, 0, 99)) {
            return OUTSIDE;
        }
        Land then = land.copy();
        for (int i = 0; i < m; i++) {
            then.endDay();
        }
        return then.inch;
    }

    private int[] forecast(int m) {
        int[] inches = new int[m + 1];
        for (int i = 0; i <= m; i++) {
            inches[i] = will(i);
        }
        return inches;
    }

    private int[] bestTrade(int m) {
        int[] inches = forecast(m);
        int[] best = null;
        for (int code = 1; code < 100 * m + 100; code++) {
            int i = code / 100;
            int j = code % 100;
            if (i < j && j <= m) {
                if (best == null || (long) inches[i] * best[2] > (long) best[1] * inches[j]) {
                    best = new int[] {code, inches[i], inches[j]};
                }
            }
        }
        return best;
    }

    long sure(int m, int part) {
        if (out(m, 1, 60) || out(part, 0, 1)) {
            return LOST - 2;
        }
        int[] best = bestTrade(m);
        return fraction(BigInteger.valueOf(best[1]), BigInteger.valueOf(best[2]), part);
    }

    int when(int m) {
        return out(m, 1, 60) ? OUTSIDE : bestTrade(m)[0];
    }

    int meet(int s, int a, int b, int r, int what) {
        if (out(s, 1, 99999) || out(a, 0, 20) || out(b, 0, 20) || out(r, 1, 200) || out(what, 0, 1)) {
            return OUTSIDE;
        }
        Land then = land.copy();
        int missing = s;
        for (int days = 1; days <= 99; days++) {
            missing -= a * then.inch + b * r;
            if (missing <= 0) {
                return what == 0 ? days : -missing;
            }
            then.endDay();
        }
        return NONE;
    }

    int waste(int stick, int p, int q, int what) {
        if (out(stick, 0, 7)) {
            return UNKNOWN;
        }
        if (out(p, 1, 20) || out(q, 1, 20) || out(what, 0, 1)) {
            return OUTSIDE;
        }
        int length = land.sticks[stick];
        int least = Integer.MAX_VALUE;
        int fewest = 0;
        for (int x = 0; x * p * land.inch <= length; x++) {
            for (int y = 0; (x * p + y * q) * land.inch <= length; y++) {
                int left = length - (x * p + y * q) * land.inch;
                if (left < least) {
                    least = left;
                    fewest = x;
                }
            }
        }
        return what == 0 ? least : fewest;
    }

    int days(int m, int r, int what) {
        if (out(m, 0, 60) || out(r, 1, 10) || r > m + 1 || out(what, 0, 1)) {
            return OUTSIDE;
        }
        int[] inches = forecast(m);
        if (m <= 11) {
            return daysBySets(inches, r)[what];
        }
        for (int spread = 0; spread < 200; spread++) {
            for (int first = 0; first <= m; first++) {
                for (int low = inches[first] - spread; low <= inches[first]; low++) {
                    int many = 0;
                    for (int i = first; i <= m; i++) {
                        many += inches[i] >= low && inches[i] <= low + spread ? 1 : 0;
                    }
                    if (many >= r) {
                        return what == 0 ? spread : first;
                    }
                }
            }
        }
        throw new IllegalStateException("there is always a set");
    }

    private static int[] daysBySets(int[] inches, int r) {
        int least = Integer.MAX_VALUE;
        int first = 0;
        for (int set = 1; set < 1 << inches.length; set++) {
            if (Integer.bitCount(set) == r) {
                int low = 999;
                int high = 0;
                for (int i = 0; i < inches.length; i++) {
                    if ((set >> i & 1) == 1) {
                        low = Math.min(low, inches[i]);
                        high = Math.max(high, inches[i]);
                    }
                }
                int begins = Integer.numberOfTrailingZeros(set);
                if (high - low < least || high - low == least && begins < first) {
                    least = high - low;
                    first = begins;
                }
            }
        }
        return new int[] {least, first};
    }

    int seen(int day, int v) {
        if (out(day, 0, 60) || out(v, 1, 200)) {
            return OUTSIDE;
        }
        if (land.sights.size() == 8) {
            return FULL;
        }
        land.sights.add(new int[] {day, v});
        return land.sights.size();
    }

    int forget() {
        int was = land.sights.size();
        land.sights.clear();
        return was;
    }

    private List<int[]> fitting() {
        List<int[]> laws = new ArrayList<>();
        for (int a = 1; a <= 200; a++) {
            for (int b = -9; b <= 9; b++) {
                boolean fits = true;
                for (int[] sight : land.sights) {
                    fits &= hold(a + b * sight[0]) == sight[1];
                }
                if (fits) {
                    laws.add(new int[] {a, b});
                }
            }
        }
        return laws;
    }

    int fits(int i) {
        List<int[]> laws = fitting();
        if (i == -1) {
            return laws.size();
        }
        return out(i, 0, laws.size() - 1) ? NONE : 100 * laws.get(i)[0] + laws.get(i)[1] + 9;
    }

    int ask(int what) {
        if (out(what, 0, 1)) {
            return OUTSIDE;
        }
        List<int[]> laws = fitting();
        if (laws.isEmpty()) {
            return NONE;
        }
        int best = -1;
        int fewest = Integer.MAX_VALUE;
        for (int day = 0; day <= 60; day++) {
            int[] piles = new int[201];
            for (int[] law : laws) {
                piles[hold(law[0] + law[1] * day)]++;
            }
            int most = Arrays.stream(piles).max().getAsInt();
            if (most < fewest) {
                fewest = most;
                best = day;
            }
        }
        return what == 0 ? best : fewest;
    }

    private List<int[]> meansTillStill() {
        List<int[]> times = new ArrayList<>();
        int[] now = new int[6];
        for (int i = 0; i < 6; i++) {
            now[i] = land.measure(i);
        }
        while (times.isEmpty() || !Arrays.equals(times.get(times.size() - 1), now)) {
            times.add(now);
            int[] next = new int[6];
            for (int i = 0; i < 6; i++) {
                next[i] = (now[(i + 5) % 6] + now[i] + now[(i + 7) % 6]) / 3;
            }
            now = next;
        }
        return times;
    }

    int settle(int one, int n) {
        if (out(one, 0, 5)) {
            return UNKNOWN;
        }
        if (out(n, 0, 99)) {
            return OUTSIDE;
        }
        List<int[]> times = meansTillStill();
        return times.get(Math.min(n, times.size() - 1))[one];
    }

    int settled() {
        return meansTillStill().size() - 1;
    }

    private static boolean wins(int n, int k, Map<Integer, Boolean> known) {
        if (n == 0) {
            return false;
        }
        Boolean told = known.get(n);
        if (told == null) {
            told = !wins(n / 2, k, known);
            for (int cut = 1; cut <= Math.min(n, k); cut++) {
                told |= !wins(n - cut, k, known);
            }
            known.put(n, told);
        }
        return told;
    }

    int halves(int n, int k, int what) {
        if (out(n, 0, 200) || out(k, 1, 9) || out(what, 0, 1)) {
            return OUTSIDE;
        }
        Map<Integer, Boolean> known = new HashMap<>();
        if (what == 0) {
            return wins(n, k, known) ? 1 : 0;
        }
        if (!wins(n, k, known)) {
            return NONE;
        }
        int move = 0;
        while (wins(move == 0 ? n / 2 : n - move, k, known)) {
            move++;
        }
        return move;
    }

    private static BigInteger factorial(int n) {
        return n < 2 ? BigInteger.ONE : factorial(n - 1).multiply(BigInteger.valueOf(n));
    }

    private static BigInteger power(int base, int times) {
        return BigInteger.valueOf(base).pow(times);
    }

    long shake(int n, int a, int b, int k, int part) {
        if (out(n, 0, 12) || out(a, 0, 10) || out(b, 0, 10) || a + b > 10 || out(k, 0, 12) || out(part, 0, 1)) {
            return LOST - 2;
        }
        BigInteger ways = BigInteger.ZERO;
        for (int less = 0; less <= n; less++) {
            for (int more = 0; less + more <= n; more++) {
                if (Math.abs(less - more) >= k) {
                    int same = n - less - more;
                    BigInteger orders = factorial(n)
                            .divide(factorial(less)).divide(factorial(more)).divide(factorial(same));
                    ways = ways.add(orders.multiply(power(a, less)).multiply(power(b, more))
                            .multiply(power(10 - a - b, same)));
                }
            }
        }
        return fraction(ways, BigInteger.TEN.pow(n), part);
    }

    int year(int seed, int m, int what) {
        if (out(seed, 0, 9999) || out(m, 1, 99) || out(what, 0, 2)) {
            return OUTSIDE;
        }
        Land then = land.copy();
        long x = seed;
        for (int i = 0; i < m; i++) {
            x = (75 * x + 74) % 65537;
            char who = (char) ('A' + x % 6);
            long n = 1 + x / 48 % 9;
            long place = x / 432 % 4;
            String[] acts = {who + "+" + n, who + "-" + n, who + "(" + place + n, who + ")" + place + n,
                "<" + n, ">" + n, who + "=", "."};
            then.act(acts[(int) (x / 6 % 8)]);
        }
        int coins = 0;
        for (int[] one : then.ones) {
            coins += one[0];
        }
        int met = 0;
        for (int i = 0; i < 4; i++) {
            met += then.beyond(i) >= 0 ? 1 : 0;
        }
        return new int[] {then.inch, coins, met}[what];
    }

    int image(int n) {
        if (out(n, 0, 1)) {
            return OUTSIDE;
        }
        images[n] = land.copy();
        return 1;
    }

    int restore(int n) {
        if (out(n, 0, 1)) {
            return OUTSIDE;
        }
        if (images[n] == null) {
            return STATE;
        }
        land = images[n].copy();
        return 1;
    }

    int told(int what) {
        Map<Integer, Integer> all = new HashMap<>();
        all.put(0, text.length());
        all.put(1, land.inch);
        all.put(2, land.day);
        all.put(3, land.sights.size());
        for (int i = 0; i < 7; i++) {
            all.put(10 + i, land.week[i] + 9);
        }
        for (int i = 0; i < 8; i++) {
            all.put(20 + i, land.sticks[i]);
        }
        for (int i = 0; i < 6; i++) {
            for (int j = 0; j < 3; j++) {
                all.put(40 + 10 * i + j, land.ones[i][j]);
            }
            all.put(43 + 10 * i, land.measure(i));
        }
        for (int i = 0; i < 4; i++) {
            for (int j = 0; j < 3; j++) {
                all.put(100 + 10 * i + j, land.bridges[i][j]);
            }
        }
        return all.getOrDefault(what, OUTSIDE);
    }
}
