/** All that can be learnt of an object, as a text; two objects that answer alike in all have the same. */
final class Snapshot {
    private final LentRulers x;
    private final StringBuilder text = new StringBuilder();

    private Snapshot(LentRulers x) {
        this.x = x;
    }

    /** What questions tell, which change nothing. */
    static String of(LentRulers x) {
        Snapshot snapshot = new Snapshot(x);
        snapshot.now();
        snapshot.behind();
        snapshot.sights();
        return snapshot.text.toString();
    }

    /** The same, and what the images hold; the object is of no use afterwards. */
    static String withImages(LentRulers x) {
        Snapshot snapshot = new Snapshot(x);
        snapshot.text.append(of(x));
        for (int n = 0; n < 2; n++) {
            snapshot.put("restore " + n, x.restore(n));
            snapshot.now();
            snapshot.sights();
        }
        return snapshot.text.toString();
    }

    private void put(String name, long answer) {
        text.append(name).append(' ').append(answer).append('\n');
    }

    private void told(int from, int many) {
        for (int what = from; what < from + many; what++) {
            put("told " + what, x.told(what));
        }
    }

    private void now() {
        told(0, 4);
        told(10, 7);
        told(20, 8);
        for (int one = 0; one < 6; one++) {
            told(40 + 10 * one, 4);
        }
        for (int bridge = 0; bridge < 4; bridge++) {
            told(100 + 10 * bridge, 3);
        }
    }

    private void behind() {
        put("fault", x.fault());
        put("judge 0", x.judge(0));
        put("judge 1", x.judge(1));
        for (int i = 0; i < 18; i++) {
            put("behind " + i / 3 + ' ' + i % 3, x.behind(i / 3, i % 3));
        }
        for (int stick = 0; stick < 8; stick++) {
            put("lies " + stick, x.lies(stick));
        }
        for (int i = 0; i < 12; i++) {
            put("built " + i / 3 + ' ' + i % 3, x.built(i / 3, i % 3));
        }
        for (int what = 0; what < 4; what++) {
            put("then " + what, x.then(what));
        }
    }

    private void sights() {
        int many = x.fits(-1);
        put("fits", many);
        put("fits first", x.fits(0));
        put("fits last", x.fits(many - 1));
    }
}
