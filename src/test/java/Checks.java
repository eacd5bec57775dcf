/** Counts answers that are not as due, and helps to write on the pad. */
final class Checks {
    private final String name;
    private int calls;
    private int wrong;

    Checks(String name) {
        this.name = name;
    }

    void due(String call, long got, long want) {
        calls++;
        if (got != want) {
            wrong++;
            System.out.println(name + ": " + call + " answered " + got + ", due is " + want);
        }
    }

    void holds(String what, boolean so) {
        calls++;
        if (!so) {
            wrong++;
            System.out.println(name + ": " + what + " does not hold");
        }
    }

    /** Exits with 1 if something was wrong. */
    void end() {
        System.out.println(name + ": " + calls + " checks, " + wrong + " wrong");
        if (wrong != 0) {
            System.exit(1);
        }
    }

    /** Writes a text on the emptied pad. */
    static void write(LentRulers x, String text) {
        x.wipe();
        for (int i = 0; i < text.length(); i++) {
            x.say(text.charAt(i));
        }
    }
}
