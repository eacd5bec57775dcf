import java.io.IOException;
import java.nio.charset.StandardCharsets;
import java.nio.file.Files;
import java.nio.file.Path;
import java.util.regex.Matcher;
import java.util.regex.Pattern;

/**
 * Checks told by the document's own sentences: a sentence is quoted, then come its checks. A quote must stand
 * in the document once, must have a check, and at the end no words of the document may be left without a quote.
 */
final class Sentences {
    private static final String TERMS = "## Terms\n";
    private static final String PROMISE = "## Promise ";
    private static final String REST = "## Not promised\n";
    // Words that ask for nothing by themselves: heads, marks of code, faces, which calls a part is about.
    private static final Pattern FRAME = Pattern.compile(
            "(?m)^#.*$|^```.*$|^======== \\d|^Ahead of the calls .*$|^`[a-zA-Z ]*\\([a-zA-Z0-9 ,]*\\)`:");
    private static final int SHOWN = 60;

    private final Checks checks;
    private final String document;
    private final boolean[] quoted;
    private String sentence = "";
    private int checksOfIt = 1;

    Sentences(Checks checks, Path path) throws IOException {
        this.checks = checks;
        document = Files.readString(path, StandardCharsets.UTF_8);
        quoted = new boolean[document.length()];
        Matcher frame = FRAME.matcher(document);
        while (frame.find()) {
            mark(frame.start(), frame.end());
        }
    }

    /** The checks that come next are about this sentence of the terms. */
    void terms(String text) {
        quote(TERMS, PROMISE + "1:", text);
    }

    /** The checks that come next are about this sentence of a promise. */
    void promise(int number, String text) {
        String next = PROMISE + (number + 1) + ":";
        quote(PROMISE + number + ":", document.contains(next) ? next : REST, text);
    }

    void due(String call, long got, long want) {
        checksOfIt++;
        checks.due(call + ", by \"" + sentence + "\",", got, want);
    }

    void holds(String what, boolean so) {
        checksOfIt++;
        checks.holds(what + ", by \"" + sentence + "\",", so);
    }

    /** No words of the terms or of a promise may be left that no test has quoted. */
    void end() {
        checks.holds("a check of \"" + sentence + "\"", checksOfIt > 0);
        int from = document.indexOf(TERMS);
        int to = document.indexOf(REST);
        checks.holds("the document has its parts", from >= 0 && to > from);
        for (int i = Math.max(0, from); i < to; i++) {
            if (!quoted[i] && Character.isLetterOrDigit(document.charAt(i))) {
                int end = i;
                while (end < to && !quoted[end]) {
                    end++;
                }
                String left = document.substring(i, Math.min(end, i + SHOWN));
                checks.holds("a test that quotes \"" + left + "\"", false);
                i = end;
            }
        }
    }

    private void quote(String head, String next, String text) {
        checks.holds("a check of \"" + sentence + "\"", checksOfIt > 0);
        sentence = text;
        checksOfIt = 0;
        int from = Math.max(0, document.indexOf(head));
        int to = Math.max(from, document.indexOf(next, from));
        int at = document.indexOf(text, from);
        boolean stands = at >= 0 && at + text.length() <= to;
        checks.holds("it stands in the document under " + head.trim() + " \"" + text + "\"", stands);
        if (stands) {
            int again = document.indexOf(text, at + 1);
            checks.holds("it stands there once: \"" + text + "\"", again < 0 || again >= to);
            mark(at, at + text.length());
        }
    }

    private void mark(int from, int to) {
        for (int i = from; i < to; i++) {
            quoted[i] = true;
        }
    }
}
