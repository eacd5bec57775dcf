import java.lang.reflect.Method;
import java.lang.reflect.Modifier;
import java.nio.charset.StandardCharsets;
import java.nio.file.Files;
import java.nio.file.Path;
import java.util.ArrayList;
import java.util.HashMap;
import java.util.List;
import java.util.Map;
import java.util.regex.Matcher;
import java.util.regex.Pattern;

/** README.md tells of every call, and its examples answer what stands beside them. */
final class ReadmeTest {
    private static final Checks CHECKS = new Checks("ReadmeTest");
    private static final String FIRST_LINE = "LentRulers x = new LentRulers();";
    private static final Pattern BLOCK = Pattern.compile("(?s)```java\n(.*?)```");
    private static final Pattern WRITE = Pattern.compile("write\\(x, \"([^\"]*)\"\\);");
    private static final Pattern CALL = Pattern.compile("x\\.(\\w+)\\(([-\\d, ]*)\\); +// (.+)");
    private static final Pattern ROW = Pattern.compile("(?m)^\\| `(\\w+)\\(([\\w, ]*)\\)` \\|");
    private static final Pattern FACE = Pattern.compile("(?m)^ +public (?:int|long) (\\w+)\\(([\\w, ]*)\\)");
    private static final Pattern REFUSAL = Pattern.compile("(?m)^\\| `([A-Z]+)` (-\\d) \\|");
    private static final int REFUSALS = 6;

    private static final Map<String, Method> METHODS = new HashMap<>();

    public static void main(String[] args) throws Exception {
        String page = Files.readString(Path.of("README.md"), StandardCharsets.UTF_8);
        String document = Files.readString(Path.of(args[1]), StandardCharsets.UTF_8);
        for (Method method : LentRulers.class.getDeclaredMethods()) {
            if (Modifier.isPublic(method.getModifiers())) {
                METHODS.put(method.getName(), method);
            }
        }
        rowForEachCall(page, document);
        refusals(page);
        examples(page);
        CHECKS.end();
    }

    /** The tables have the calls of the document's face, in its order, with its names for their numbers. */
    private static void rowForEachCall(String page, String document) {
        List<String> rows = new ArrayList<>();
        Matcher row = ROW.matcher(page);
        while (row.find()) {
            rows.add(row.group(1) + "(" + row.group(2) + ")");
        }
        List<String> face = new ArrayList<>();
        Matcher call = FACE.matcher(document);
        while (call.find()) {
            face.add(call.group(1) + "(" + call.group(2).replaceAll("\\bint ", "") + ")");
        }
        CHECKS.due("calls of the document's face", face.size(), METHODS.size());
        CHECKS.holds("a row for each of " + face + ", but there are " + rows, rows.equals(face));
    }

    private static void refusals(String page) throws Exception {
        Matcher matcher = REFUSAL.matcher(page);
        int many = 0;
        while (matcher.find()) {
            CHECKS.due(matcher.group(1), Long.parseLong(matcher.group(2)), constant(matcher.group(1)));
            many++;
        }
        CHECKS.due("answers in the table", many, REFUSALS);
    }

    private static void examples(String page) throws Exception {
        Matcher block = BLOCK.matcher(page);
        int many = 0;
        while (block.find()) {
            if (block.group(1).startsWith(FIRST_LINE)) {
                example(block.group(1));
                many++;
            }
        }
        CHECKS.holds("there are examples", many > 0);
    }

    private static void example(String text) throws Exception {
        LentRulers x = null;
        for (String line : text.split("\n")) {
            Matcher write = WRITE.matcher(line);
            Matcher call = CALL.matcher(line);
            if (line.equals(FIRST_LINE)) {
                x = new LentRulers();
            } else if (write.matches()) {
                for (char sign : write.group(1).toCharArray()) {
                    x.say(sign);
                }
            } else if (call.matches() && METHODS.containsKey(call.group(1))) {
                CHECKS.due(line, answer(x, call.group(1), call.group(2)), told(call.group(3)));
            } else {
                CHECKS.holds("a line that can be tried: " + line, false);
            }
        }
    }

    private static long answer(LentRulers x, String name, String numbers) throws Exception {
        List<Object> values = new ArrayList<>();
        if (!numbers.isEmpty()) {
            for (String number : numbers.split(", ")) {
                values.add(Integer.parseInt(number));
            }
        }
        return ((Number) METHODS.get(name).invoke(x, values.toArray())).longValue();
    }

    /** An answer as the page tells it: a number, a constant, or two constants added. */
    private static long told(String text) throws Exception {
        long sum = 0;
        for (String term : text.split(" \\+ ")) {
            sum += term.matches("-?\\d+") ? Long.parseLong(term) : constant(term);
        }
        return sum;
    }

    private static long constant(String name) throws Exception {
        return ((Number) LentRulers.class.getField(name).get(null)).longValue();
    }
}
