import java.lang.reflect.Constructor;
import java.lang.reflect.Field;
import java.lang.reflect.Method;
import java.lang.reflect.Modifier;
import java.nio.charset.StandardCharsets;
import java.nio.file.Files;
import java.nio.file.Path;
import java.util.HashSet;
import java.util.Set;
import java.util.regex.Matcher;
import java.util.regex.Pattern;

/** The rules of LANGUAGE.md that can be looked up in the source, or in the class that was compiled from it. */
final class LanguageTest {
    private static final Checks CHECKS = new Checks("LanguageTest");
    private static final String[] FORBIDDEN = {
        "->", "::", "\\btry\\b", "\\bcatch\\b", "\\bfinally\\b", "\\bthrows?\\b", "\\bsynchronized\\b",
        "\\bassert\\b", "\\bvolatile\\b", "\\bnative\\b", "\\bdouble\\b", "\\bfloat\\b", "\\bvar\\b",
        "\\bpackage\\b", "\\bstatic\\s*\\{", "Exact\\b", "\\bRandom\\b", "System\\.(?!arraycopy)",
        "\\bThread\\b", "\\bgetClass\\b", "\\btoString\\b", "\\bhashCode\\b", "\\bequals\\b",
        "\\binstanceof\\b", "while \\(true\\)", "for \\(;;\\)"
    };
    private static final Set<String> LISTED = Set.of("java.util.Arrays", "java.util.ArrayList", "java.util.List");
    private static final Set<String> LIBRARY = Set.of("Math.max", "Math.min", "Math.abs", "Math.floorMod",
            "System.arraycopy", "Arrays.fill");
    private static final int MOST_LINES = 60;

    public static void main(String[] args) throws Exception {
        String source = Files.readString(Path.of(args[0]), StandardCharsets.ISO_8859_1);
        CHECKS.holds("all signs are ASCII", source.chars().allMatch(c -> c < 127));
        String code = withoutComments(source);
        for (String pattern : FORBIDDEN) {
            CHECKS.holds("no " + pattern, !Pattern.compile(pattern).matcher(code).find());
        }
        imports(code);
        libraryCalls(code);
        staticState(code);
        methodLengths(code);
        objectsOutsideConstructors(code);
        classes();
        CHECKS.end();
    }

    private static String withoutComments(String source) {
        return source.replaceAll("(?s)/\\*.*?\\*/", "").replaceAll("//[^\n]*", "");
    }

    private static void imports(String code) {
        Matcher matcher = Pattern.compile("import ([^;]+);").matcher(code);
        while (matcher.find()) {
            CHECKS.holds("import " + matcher.group(1), LISTED.contains(matcher.group(1)));
        }
    }

    /** Rule 4: of the library only what it lists, and of that only what the class needs. */
    private static void libraryCalls(String code) {
        Matcher matcher = Pattern.compile("(?<![\\w.])([A-Z]\\w*\\.\\w+)\\(").matcher(code);
        while (matcher.find()) {
            CHECKS.holds("library call " + matcher.group(1), LIBRARY.contains(matcher.group(1)));
        }
    }

    /** Rule 5: a static array is written out in its initialiser, and nothing is put into it. */
    private static void staticState(String code) {
        Matcher matcher = Pattern.compile("static final \\w+\\[\\] (\\w+) =([^;]*);").matcher(code);
        while (matcher.find()) {
            String name = matcher.group(1);
            CHECKS.holds(name + " is written out", matcher.group(2).trim().startsWith("{"));
            CHECKS.holds(name + " is only read",
                    !Pattern.compile("\\b" + name + "\\[[^;]*?\\](?:\\+\\+|--| [-+*/|&^]?= )").matcher(code).find());
        }
    }

    private static void methodLengths(String code) {
        String[] lines = code.split("\n");
        Pattern head = Pattern.compile("^( +)(?!return|new|else|for|if|switch|while)[a-zA-Z][\\w \\[\\]]*\\(.*");
        int begun = -1;
        String margin = "";
        for (int i = 0; i < lines.length; i++) {
            Matcher matcher = head.matcher(lines[i]);
            if (begun < 0 && matcher.matches() && lines[i].endsWith("{")) {
                begun = i;
                margin = matcher.group(1);
            } else if (begun >= 0 && lines[i].equals(margin + "}")) {
                CHECKS.holds("a short method at " + lines[begun].trim(), i - begun < MOST_LINES);
                begun = -1;
            }
        }
    }

    /** Rows are made once and used again: new stands in constructors alone. */
    private static void objectsOutsideConstructors(String code) {
        for (String line : code.split("\n")) {
            if (line.contains("new ")) {
                CHECKS.holds("made for a field: " + line.trim(), line.trim().matches("\\w+ = new [\\w\\[\\] +*()]+;"));
            }
        }
    }

    private static void classes() throws Exception {
        Class<?> face = LentRulers.class;
        Set<String> publicNames = new HashSet<>();
        for (Method method : face.getDeclaredMethods()) {
            if (Modifier.isPublic(method.getModifiers())) {
                publicNames.add(method.getName());
            }
        }
        members(face, publicNames);
        Class<?>[] inside = face.getDeclaredClasses();
        CHECKS.holds("twelve classes at most", inside.length + 1 <= 12);
        for (Class<?> one : inside) {
            members(one, publicNames);
        }
    }

    private static void members(Class<?> owner, Set<String> publicNames) {
        for (Method method : owner.getDeclaredMethods()) {
            String name = owner.getSimpleName() + "." + method.getName();
            CHECKS.holds(name + " takes seven at most", method.getParameterCount() <= 7);
            CHECKS.holds(name + " bears no public name",
                    Modifier.isPublic(method.getModifiers()) || !publicNames.contains(method.getName()));
        }
        for (Constructor<?> maker : owner.getDeclaredConstructors()) {
            CHECKS.holds(owner.getSimpleName() + " throws nothing", maker.getExceptionTypes().length == 0);
        }
        int fields = 0;
        for (Field field : owner.getDeclaredFields()) {
            if (Modifier.isStatic(field.getModifiers())) {
                CHECKS.holds(field + " is final", Modifier.isFinal(field.getModifiers()));
            } else {
                fields++;
            }
        }
        CHECKS.holds(owner.getSimpleName() + " has twenty fields at most", fields <= 20);
    }
}
