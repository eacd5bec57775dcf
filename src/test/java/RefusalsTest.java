import java.lang.reflect.Method;
import java.util.ArrayList;
import java.util.Arrays;
import java.util.List;

/**
 * Every number of every call in every state: the last that is allowed, the first that is not, which refusal
 * comes first where several fit, and that a refused call changes nothing, nor does a question.
 */
final class RefusalsTest {
    private static final int NONE = -6;
    private static final int UNKNOWN = -1;
    private static final int OUTSIDE = -2;
    private static final int STATE = -3;
    private static final int FULL = -4;
    private static final int NO = -5;
    private static final long LOST = -1000000000000000000L;

    // U: there is no such ONE, STICK, BRIDGE; O: another number. From, to, and one that is always allowed.
    private static final String[] CALLS = {
        "inch O 1 200 70", "week O 0 6 2 O -9 9 4", "one U 0 5 1 O 0 9999 30 O 0 99999 500 O 0 200 40",
        "stick U 0 7 3 O 0 1800 90", "bridge U 0 3 2 O 1 99999 700", "say O 33 126 46", "wipe", "fault",
        "judge O 0 1 0", "done", "behind U 0 5 1 O 0 2 1", "lies U 0 7 3", "built U 0 3 2 O 0 2 2",
        "then O 0 3 1", "inches U 0 7 3 U 0 5 1 O 0 1 0", "will O 0 99 8", "sure O 1 60 8 O 0 1 0",
        "when O 1 60 8", "meet O 1 99999 600 O 0 20 3 O 0 20 3 O 1 200 50 O 0 1 0",
        "waste U 0 7 3 O 1 20 3 O 1 20 2 O 0 1 0", "days O 0 60 20 O 1 10 1 O 0 1 0", "seen O 0 60 8 O 1 200 60",
        "forget", "ask O 0 1 0", "settle U 0 5 1 O 0 99 3", "settled", "halves O 0 200 30 O 1 9 3 O 0 1 0",
        "shake O 0 12 3 O 0 10 0 O 0 10 0 O 0 12 1 O 0 1 0", "year O 0 9999 7 O 1 99 9 O 0 2 1",
        "image O 0 1 0", "restore O 0 1 0"
    };

    private static final List<String> CHANGING = List.of("inch", "week", "one", "stick", "bridge", "say", "wipe",
            "done", "seen", "forget", "image", "restore");

    /** What the pad, the sights and the images are like. */
    private enum Kind { PLAIN, FAULTY, STUCK, FULL_PAD, FULL_SIGHTS, NEVER_KEPT }

    private static final Checks CHECKS = new Checks("RefusalsTest");

    private final String name;
    private final boolean[] unknown;
    private final int[] least;
    private final int[] most;
    private final int[] ordinary;

    private RefusalsTest(String row) {
        String[] words = row.split(" ");
        int many = words.length / 4;
        name = words[0];
        unknown = new boolean[many];
        least = new int[many];
        most = new int[many];
        ordinary = new int[many];
        for (int i = 0; i < many; i++) {
            unknown[i] = words[4 * i + 1].equals("U");
            least[i] = Integer.parseInt(words[4 * i + 2]);
            most[i] = Integer.parseInt(words[4 * i + 3]);
            ordinary[i] = Integer.parseInt(words[4 * i + 4]);
        }
    }

    public static void main(String[] args) throws Exception {
        for (String row : CALLS) {
            RefusalsTest call = new RefusalsTest(row);
            for (Kind kind : Kind.values()) {
                call.oneNumber(kind);
                call.twoNumbers(kind);
                call.allNumbers(kind);
            }
        }
        bothTogether();
        moreDaysThanThereAre();
        toldOfNothing();
        fitsIsNeverRefused();
        CHECKS.end();
    }

    private static LentRulers make(Kind kind) {
        LentRulers x = new LentRulers();
        x.week(0, 3);
        x.one(1, 50, 700, 45);
        x.stick(3, 500);
        x.bridge(2, 100);
        Checks.write(x, "B(21.A+2B)03C=");
        x.done();
        x.seen(0, 60);
        if (kind != Kind.NEVER_KEPT) {
            x.image(0);
            x.inch(90);
            x.stick(4, 77);
            x.seen(2, 66);
            x.image(1);
            x.inch(88);
        }
        while (kind == Kind.FULL_SIGHTS && x.told(3) < 8) {
            x.seen(2, 66);
        }
        Checks.write(x, textOf(kind));
        return x;
    }

    private static String textOf(Kind kind) {
        switch (kind) {
            case FAULTY:
                return "A+1B(2";
            case STUCK:
                return "A+1AxB(21";
            case FULL_PAD:
                return "A+1B=" + ".".repeat(55);
            default:
                return "A+1.B/61B(22";
        }
    }

    private int[] ordinaryNumbers() {
        return ordinary.clone();
    }

    private List<Integer> wrongNumbers(int i) {
        return List.of(least[i] - 1, most[i] + 1, Integer.MIN_VALUE, Integer.MAX_VALUE);
    }

    private void oneNumber(Kind kind) throws Exception {
        for (int i = 0; i < ordinary.length; i++) {
            List<Integer> tried = new ArrayList<>(wrongNumbers(i));
            tried.add(least[i]);
            tried.add(most[i]);
            for (int value : tried) {
                int[] numbers = ordinaryNumbers();
                numbers[i] = value;
                look(kind, numbers);
            }
        }
    }

    private void twoNumbers(Kind kind) throws Exception {
        for (int i = 0; i < ordinary.length; i++) {
            for (int j = i + 1; j < ordinary.length; j++) {
                for (int sides = 0; sides < 4; sides++) {
                    int[] numbers = ordinaryNumbers();
                    numbers[i] = wrongNumbers(i).get(sides / 2);
                    numbers[j] = wrongNumbers(j).get(sides % 2);
                    look(kind, numbers);
                }
            }
        }
    }

    private void allNumbers(Kind kind) throws Exception {
        look(kind, ordinaryNumbers());
        look(kind, least.clone());
        int[] below = least.clone();
        int[] above = most.clone();
        for (int i = 0; i < below.length; i++) {
            below[i]--;
            above[i]++;
        }
        look(kind, below);
        look(kind, above);
    }

    /** The refusal that is due, 0: none. */
    private int refusal(Kind kind, int[] numbers) {
        int due = 0;
        for (int i = 0; i < numbers.length; i++) {
            if (numbers[i] < least[i] || numbers[i] > most[i]) {
                due = unknown[i] || due == UNKNOWN ? UNKNOWN : OUTSIDE;
            }
        }
        return due != 0 ? due : refusalByState(kind);
    }

    private int refusalByState(Kind kind) {
        boolean ofWeeks = List.of("done", "behind", "lies", "built", "then").contains(name);
        if (kind == Kind.FAULTY && (ofWeeks || name.equals("judge")) || kind == Kind.STUCK && ofWeeks) {
            return NO;
        }
        if (kind == Kind.NEVER_KEPT && name.equals("restore")) {
            return STATE;
        }
        if (kind == Kind.FULL_PAD && name.equals("say") || kind == Kind.FULL_SIGHTS && name.equals("seen")) {
            return FULL;
        }
        return 0;
    }

    private void look(Kind kind, int[] numbers) throws Exception {
        LentRulers x = make(kind);
        String text = kind + " " + name + Arrays.toString(numbers);
        long got = answer(x, numbers);
        int due = refusal(kind, numbers);
        if (due == 0) {
            CHECKS.holds(text + " is not refused, but answered " + got, got >= 0 || got == NONE);
            if (!CHANGING.contains(name)) {
                unchanged(text + ", a question,", x, kind);
            }
            return;
        }
        boolean fraction = List.of("inches", "sure", "shake").contains(name);
        CHECKS.due(text, got, fraction ? LOST + due : due);
        unchanged(text, x, kind);
    }

    private static void unchanged(String text, LentRulers x, Kind kind) {
        String is = Snapshot.withImages(x);
        String was = Snapshot.withImages(make(kind));
        CHECKS.holds(text + " changes nothing", is.equals(was));
    }

    private long answer(LentRulers x, int[] numbers) throws Exception {
        for (Method method : LentRulers.class.getDeclaredMethods()) {
            if (method.getName().equals(name) && method.getParameterCount() == numbers.length) {
                Object[] arguments = Arrays.stream(numbers).boxed().toArray();
                return ((Number) method.invoke(x, arguments)).longValue();
            }
        }
        throw new IllegalStateException("there is no " + name);
    }

    private static void bothTogether() {
        for (int a = 0; a <= 10; a++) {
            LentRulers x = make(Kind.PLAIN);
            int b = 10 - a;
            CHECKS.holds("shake, 10 together with a " + a, x.shake(1, a, b, 0, 0) == 1);
            if (b + 1 <= 10) {
                CHECKS.due("shake, 11 together with a " + a, x.shake(1, a, b + 1, 0, 0), LOST + OUTSIDE);
            }
            CHECKS.due("shake, more by far with a " + a, x.shake(1, a, Integer.MAX_VALUE, 0, 0), LOST + OUTSIDE);
            CHECKS.due("shake, less than none with a " + a, x.shake(1, a, -a - 1, 0, 0), LOST + OUTSIDE);
            unchanged("shake, both together", x, Kind.PLAIN);
        }
    }

    private static void moreDaysThanThereAre() {
        for (int m = 0; m <= 60; m++) {
            LentRulers x = make(Kind.PLAIN);
            int most = Math.min(10, m + 1);
            CHECKS.holds("days of " + m + ", all that may be", x.days(m, most, 0) >= 0);
            CHECKS.due("days of " + m + ", one more", x.days(m, most + 1, 0), OUTSIDE);
            CHECKS.due("days of " + m + ", none", x.days(m, 0, 0), OUTSIDE);
            unchanged("days of " + m, x, Kind.PLAIN);
        }
    }

    private static boolean isTold(int what) {
        int ten = what / 10;
        int one = what % 10;
        switch (ten) {
            case 0:
                return one <= 3;
            case 1:
                return one <= 6;
            case 2:
                return one <= 7;
            case 4: case 5: case 6: case 7: case 8: case 9:
                return one <= 3;
            case 10: case 11: case 12: case 13:
                return one <= 2;
            default:
                return false;
        }
    }

    private static void toldOfNothing() {
        LentRulers x = make(Kind.PLAIN);
        for (int what = 0; what <= 199; what++) {
            int got = x.told(what);
            CHECKS.holds("told(" + what + ") answered " + got, isTold(what) ? got >= 0 : got == OUTSIDE);
        }
        int[] far = {-1, -10, -40, -100, Integer.MIN_VALUE, 1000, 65536 + 1, Integer.MAX_VALUE};
        for (int what : far) {
            CHECKS.due("told(" + what + ")", x.told(what), OUTSIDE);
        }
        LentRulers y = make(Kind.PLAIN);
        y.told(-1);
        y.told(140);
        unchanged("told of nothing", y, Kind.PLAIN);
    }

    private static void fitsIsNeverRefused() {
        for (int i : new int[] {Integer.MIN_VALUE, -2, 3800, Integer.MAX_VALUE}) {
            LentRulers x = make(Kind.PLAIN);
            CHECKS.due("fits(" + i + ")", x.fits(i), NONE);
            unchanged("fits(" + i + ")", x, Kind.PLAIN);
        }
    }
}
