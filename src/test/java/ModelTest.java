import java.lang.reflect.InvocationTargetException;
import java.lang.reflect.Method;
import java.util.ArrayList;
import java.util.Arrays;
import java.util.Comparator;
import java.util.List;
import java.util.Random;

/** Drawn runs of 512 calls, each answer compared with the model's; the seeds are fixed. */
final class ModelTest {
    private static final int RUNS = 1500;
    private static final int CALLS = 512;
    private static final int MOST_TOLD = 20;
    private static final int[] EDGES = {Integer.MIN_VALUE, -1000000, -10, -9, -6, -2, -1, 0, 1, 2, 3, 4, 5, 6, 7, 8,
        9, 10, 11, 12, 13, 20, 21, 32, 33, 60, 61, 98, 99, 100, 101, 126, 127, 199, 200, 201, 1800, 1801, 9998, 9999,
        10000, 99998, 99999, 100000, 1000000, Integer.MAX_VALUE};

    // What is drawn for each argument, from and to; the model refuses what its face refuses, so a bit beyond is fine.
    private static final Object[][] DRAWN = {
        {"inch", 3, 1, 200}, {"week", 6, 0, 6, -9, 9}, {"one", 6, 0, 5, 0, 9999, 0, 99999, 0, 200},
        {"stick", 4, 0, 7, 0, 1800}, {"bridge", 3, 0, 3, 1, 2000}, {"say", 3, 33, 126}, {"wipe", 1}, {"fault", 4},
        {"judge", 6, 0, 1}, {"done", 8}, {"behind", 5, 0, 5, 0, 2}, {"lies", 3, 0, 7}, {"built", 5, 0, 3, 0, 2},
        {"then", 6, 0, 3}, {"inches", 5, 0, 7, 0, 5, 0, 1}, {"will", 4, 0, 99}, {"sure", 3, 1, 60, 0, 1},
        {"when", 3, 1, 60}, {"meet", 5, 1, 99999, 0, 20, 0, 20, 1, 200, 0, 1}, {"waste", 5, 0, 7, 1, 20, 1, 20, 0, 1},
        {"days", 5, 0, 60, 1, 10, 0, 1}, {"seen", 5, 0, 60, 1, 200}, {"forget", 1}, {"fits", 3, -1, 60},
        {"ask", 1, 0, 1}, {"settle", 3, 0, 5, 0, 20}, {"settled", 2}, {"halves", 2, 0, 200, 1, 9, 0, 1},
        {"shake", 3, 0, 12, 0, 10, 0, 5, 0, 12, 0, 1}, {"year", 5, 0, 9999, 1, 99, 0, 2}, {"image", 2, 0, 1},
        {"restore", 1, 0, 1}, {"told", 8, 0, 140}
    };

    private static final Checks CHECKS = new Checks("ModelTest");
    private static int wrong;

    private final Random random;
    private final LentRulers real = new LentRulers();
    private final Model model = new Model();
    private final List<String> calls = new ArrayList<>();

    private ModelTest(int seed) {
        random = new Random(seed);
    }

    public static void main(String[] args) throws Exception {
        for (int seed = 0; seed < RUNS && wrong < MOST_TOLD; seed++) {
            new ModelTest(seed).run();
        }
        everyHalf();
        everyShake();
        manyLaws();
        manyRings();
        CHECKS.end();
    }

    private void run() throws Exception {
        while (calls.size() < CALLS && wrong < MOST_TOLD) {
            int draw = random.nextInt(10);
            if (draw < 2) {
                sayText();
            } else if (draw == 2) {
                lookRoundEdges();
            } else {
                callDrawn();
            }
        }
    }

    private void callDrawn() throws Exception {
        int all = 0;
        for (Object[] row : DRAWN) {
            all += (Integer) row[1];
        }
        int left = random.nextInt(all);
        for (Object[] row : DRAWN) {
            left -= (Integer) row[1];
            if (left < 0) {
                Object[] args = new Object[(row.length - 2) / 2];
                for (int i = 0; i < args.length; i++) {
                    args[i] = argument((Integer) row[2 + 2 * i], (Integer) row[3 + 2 * i]);
                }
                call((String) row[0], args);
                return;
            }
        }
    }

    private int argument(int from, int to) {
        int draw = random.nextInt(40);
        if (draw == 0) {
            return EDGES[random.nextInt(EDGES.length)];
        }
        if (draw == 1) {
            return random.nextBoolean() ? from - 1 : to + 1;
        }
        if (draw < 6) {
            return random.nextBoolean() ? from : to;
        }
        // Small numbers are where acts can just be, or just not.
        return from + random.nextInt(1 + (draw < 14 ? Math.min(to - from, 12) : to - from));
    }

    /** A text that is mostly whole, now and then with a sign that can not stand there. */
    private void sayText() throws Exception {
        if (random.nextInt(3) != 0) {
            call("wipe");
        }
        StringBuilder text = new StringBuilder();
        for (int acts = random.nextInt(8); acts >= 0; acts--) {
            text.append(drawAct());
        }
        if (random.nextInt(8) == 0) {
            text.setCharAt(random.nextInt(text.length()), (char) (33 + random.nextInt(94)));
        }
        if (random.nextInt(8) == 0) {
            text.setLength(random.nextInt(text.length()));
        }
        for (int i = 0; i < text.length(); i++) {
            call("say", (int) text.charAt(i));
        }
        String[] next = {"fault", "done", "done", "done"};
        call(next[random.nextInt(4)]);
    }

    private String drawAct() {
        char who = (char) ('A' + random.nextInt(random.nextBoolean() ? 6 : 2));
        int n = 1 + random.nextInt(9);
        switch (random.nextInt(9)) {
            case 0:
                return who + "+" + n;
            case 1:
                return who + "-" + n;
            case 2:
                return who + "/" + random.nextInt(8) + n;
            case 3:
                return who + "(" + random.nextInt(4) + n;
            case 4:
                return who + ")" + random.nextInt(4) + n;
            case 5:
                return who + (random.nextInt(3) == 0 ? "x" : "=");
            case 6:
                return (random.nextBoolean() ? "<" : ">") + n;
            default:
                return ".";
        }
    }

    /** Sets what is near a bound, so that acts fail for each reason. */
    private void lookRoundEdges() throws Exception {
        int one = random.nextInt(3);
        switch (random.nextInt(6)) {
            case 0:
                call("inch", random.nextBoolean() ? 1 + random.nextInt(4) : 197 + random.nextInt(4));
                break;
            case 1:
                call("one", one, random.nextInt(8), random.nextInt(400), random.nextInt(201));
                break;
            case 2:
                call("one", one, 9990 + random.nextInt(10), 99000 + random.nextInt(1000), random.nextInt(3));
                break;
            case 3:
                call("bridge", random.nextInt(4), 1 + random.nextInt(300));
                break;
            case 4:
                call("one", one, 100, 500, model.told(1));
                break;
            default:
                sightsOfOneLaw();
                break;
        }
    }

    private void sightsOfOneLaw() throws Exception {
        int a = 1 + random.nextInt(200);
        int b = random.nextInt(19) - 9;
        call("forget");
        for (int i = random.nextInt(3); i >= 0; i--) {
            int day = random.nextInt(61);
            call("seen", day, Math.max(1, Math.min(200, a + b * day)));
        }
        call("fits", -1);
        call("fits", random.nextInt(20));
        call("ask", random.nextInt(2));
    }

    private static final Method[] REAL = sorted(LentRulers.class);
    private static final Method[] MODEL = sorted(Model.class);

    private static Method[] sorted(Class<?> owner) {
        Method[] methods = owner.getDeclaredMethods();
        Arrays.sort(methods, Comparator.comparing(Method::getName));
        return methods;
    }

    private static long answer(Method[] methods, Object owner, String name, Object[] args) throws Exception {
        for (Method method : methods) {
            if (method.getName().equals(name) && method.getParameterCount() == args.length) {
                return ((Number) method.invoke(owner, args)).longValue();
            }
        }
        throw new IllegalStateException("there is no " + name);
    }

    private void call(String name, Object... args) throws Exception {
        String text = name + Arrays.toString(args).replace('[', '(').replace(']', ')');
        calls.add(text);
        long due = answer(MODEL, model, name, args);
        long got;
        try {
            got = answer(REAL, real, name, args);
        } catch (InvocationTargetException thrown) {
            CHECKS.holds(text + " does not throw " + thrown.getCause(), false);
            wrong++;
            return;
        }
        CHECKS.due(text, got, due);
        if (got != due) {
            wrong++;
            System.out.println("  behind " + calls);
        }
    }

    private static void everyHalf() {
        LentRulers real = new LentRulers();
        Model model = new Model();
        for (int k = 1; k <= 9; k++) {
            for (int n = 0; n <= 200; n++) {
                for (int what = 0; what < 2; what++) {
                    String call = "halves(" + n + ", " + k + ", " + what + ")";
                    CHECKS.due(call, real.halves(n, k, what), model.halves(n, k, what));
                }
            }
        }
    }

    private static void everyShake() {
        LentRulers real = new LentRulers();
        Model model = new Model();
        for (int n = 0; n <= 12; n++) {
            for (int a = 0; a <= 10; a++) {
                for (int b = 0; a + b <= 10; b++) {
                    for (int k = 0; k <= 12; k += 1 + n % 3) {
                        String call = "shake(" + n + ", " + a + ", " + b + ", " + k + ", ";
                        CHECKS.due(call + "0)", real.shake(n, a, b, k, 0), model.shake(n, a, b, k, 0));
                        CHECKS.due(call + "1)", real.shake(n, a, b, k, 1), model.shake(n, a, b, k, 1));
                    }
                }
            }
        }
    }

    private static void manyLaws() {
        for (int day = 0; day <= 60; day += 4) {
            for (int v = 1; v <= 200; v += v < 4 || v > 196 ? 1 : 24) {
                LentRulers real = new LentRulers();
                Model model = new Model();
                String sight = " behind seen(" + day + ", " + v + ")";
                CHECKS.due("seen", real.seen(day, v), model.seen(day, v));
                CHECKS.due("fits(-1)" + sight, real.fits(-1), model.fits(-1));
                CHECKS.due("fits(5)" + sight, real.fits(5), model.fits(5));
                CHECKS.due("ask(0)" + sight, real.ask(0), model.ask(0));
                CHECKS.due("ask(1)" + sight, real.ask(1), model.ask(1));
            }
        }
    }

    private static void manyRings() {
        Random random = new Random(5);
        for (int i = 0; i < 2000; i++) {
            LentRulers real = new LentRulers();
            Model model = new Model();
            StringBuilder ring = new StringBuilder(" of");
            for (int one = 0; one < 6; one++) {
                int drawn = random.nextBoolean() ? 1 + random.nextInt(200) : 198 + random.nextInt(3);
                int ruler = random.nextInt(4) == 0 ? 0 : drawn;
                real.one(one, 0, 0, ruler);
                model.one(one, 0, 0, ruler);
                ring.append(' ').append(ruler);
            }
            CHECKS.due("settled()" + ring, real.settled(), model.settled());
            int n = random.nextInt(20);
            CHECKS.due("settle(3, " + n + ")" + ring, real.settle(3, n), model.settle(3, n));
        }
    }
}
