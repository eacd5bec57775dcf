import java.lang.reflect.Constructor;
import java.lang.reflect.Field;
import java.lang.reflect.Method;
import java.lang.reflect.Modifier;
import java.util.Set;
import java.util.TreeSet;

/** The public face is the document's, and nothing else can be seen. */
final class FaceTest {
    private static final String[] METHODS = {
        "int inch(int)", "int week(int,int)", "int one(int,int,int,int)", "int stick(int,int)",
        "int bridge(int,int)", "int say(int)", "int wipe()", "int fault()", "int judge(int)", "int done()",
        "int behind(int,int)", "int lies(int)", "int built(int,int)", "int then(int)",
        "long inches(int,int,int)", "int will(int)", "long sure(int,int)", "int when(int)",
        "int meet(int,int,int,int,int)", "int waste(int,int,int,int)", "int days(int,int,int)",
        "int seen(int,int)", "int forget()", "int fits(int)", "int ask(int)", "int settle(int,int)",
        "int settled()", "int halves(int,int,int)", "long shake(int,int,int,int,int)",
        "int year(int,int,int)", "int image(int)", "int restore(int)", "int told(int)"
    };
    private static final String[] CONSTANTS = {
        "int NONE -6", "int UNKNOWN -1", "int OUTSIDE -2", "int STATE -3", "int FULL -4", "int NO -5",
        "long LOST -1000000000000000000"
    };

    public static void main(String[] args) throws Exception {
        Checks checks = new Checks("FaceTest");
        Class<?> face = LentRulers.class;
        checks.holds("public final class", face.getModifiers() == (Modifier.PUBLIC | Modifier.FINAL));
        checks.holds("no class above", face.getSuperclass() == Object.class);
        checks.holds("methods " + methodsOf(face), methodsOf(face).equals(Set.of(METHODS)));
        checks.holds("constants " + constantsOf(face), constantsOf(face).equals(Set.of(CONSTANTS)));
        Constructor<?>[] makers = face.getDeclaredConstructors();
        checks.holds("one public constructor without arguments", makers.length == 1
                && Modifier.isPublic(makers[0].getModifiers()) && makers[0].getParameterCount() == 0);
        for (Class<?> inside : face.getDeclaredClasses()) {
            int bits = inside.getModifiers();
            checks.holds(inside + " is static and not public", Modifier.isStatic(bits)
                    && !Modifier.isPublic(bits) && !Modifier.isProtected(bits));
        }
        checks.end();
    }

    private static Set<String> methodsOf(Class<?> face) {
        Set<String> seen = new TreeSet<>();
        for (Method method : face.getDeclaredMethods()) {
            if (Modifier.isPrivate(method.getModifiers()) || method.isSynthetic()) {
                continue;
            }
            StringBuilder text = new StringBuilder();
            text.append(Modifier.isPublic(method.getModifiers()) ? "" : "hidden ");
            text.append(Modifier.isStatic(method.getModifiers()) ? "static " : "");
            text.append(method.getReturnType().getName()).append(' ').append(method.getName()).append('(');
            String comma = "";
            for (Class<?> type : method.getParameterTypes()) {
                text.append(comma).append(type.getName());
                comma = ",";
            }
            seen.add(text.append(')').toString());
        }
        return seen;
    }

    private static Set<String> constantsOf(Class<?> face) throws IllegalAccessException {
        Set<String> seen = new TreeSet<>();
        for (Field field : face.getDeclaredFields()) {
            int bits = field.getModifiers();
            if (Modifier.isPrivate(bits) || field.isSynthetic()) {
                continue;
            }
            boolean constant = Modifier.isPublic(bits) && Modifier.isStatic(bits) && Modifier.isFinal(bits);
            Object value = constant ? field.get(null) : "not a constant";
            seen.add(field.getType().getName() + " " + field.getName() + " " + value);
        }
        return seen;
    }
}
