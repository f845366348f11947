import java.lang.reflect.Constructor;
import java.lang.reflect.Field;
import java.lang.reflect.Method;
import java.lang.reflect.Modifier;
import java.util.Arrays;
import java.util.Set;
import java.util.TreeSet;

/** The class has the document's whole face and nothing else that is not private. */
public final class FaceTest {
    private static final String ARGUMENT = "IllegalArgumentException";
    private static final String STATE = "IllegalStateException";
    private static final String MISSING = "NoSuchElementException";
    private static final String UNSUPPORTED = "UnsupportedOperationException";

    public static void main(String[] args) {
        Class<?> face = LadderScan.class;
        Check.isTrue("public and final", Modifier.isPublic(face.getModifiers()) && Modifier.isFinal(face.getModifiers()));
        Set<String> got = new TreeSet<>();
        for (Method m : face.getDeclaredMethods()) {
            if (!Modifier.isPrivate(m.getModifiers())) {
                got.add(told(m));
            }
        }
        Set<String> due = due();
        Check.isTrue("methods " + got + ", due are " + due, got.equals(due));
        for (Field f : face.getDeclaredFields()) {
            Check.isTrue("private: " + f, Modifier.isPrivate(f.getModifiers()));
            Check.isTrue("static and not final: " + f,
                !Modifier.isStatic(f.getModifiers()) || Modifier.isFinal(f.getModifiers()));
        }
        Constructor<?>[] made = face.getDeclaredConstructors();
        Check.isTrue("one constructor without parameters", made.length == 1 && made[0].getParameterCount() == 0
            && Modifier.isPublic(made[0].getModifiers()) && made[0].getExceptionTypes().length == 0);
        noPrivateNamesake(face);
        Check.end();
    }

    private static void noPrivateNamesake(Class<?> face) {
        Set<String> open = new TreeSet<>();
        for (Method m : face.getMethods()) {
            open.add(m.getName());
        }
        for (Method m : face.getDeclaredMethods()) {
            Check.isTrue("namesake: " + m, Modifier.isPublic(m.getModifiers()) || !open.contains(m.getName()));
        }
    }

    private static String told(Method m) {
        StringBuilder text = new StringBuilder(Modifier.toString(m.getModifiers()));
        text.append(' ').append(m.getReturnType()).append(' ').append(m.getName());
        for (Class<?> type : m.getParameterTypes()) {
            text.append(' ').append(type);
        }
        for (Class<?> type : m.getExceptionTypes()) {
            text.append(' ').append(type.getSimpleName());
        }
        return text.toString();
    }

    private static Set<String> due() {
        return new TreeSet<>(Arrays.asList(
            "public int block int int int " + ARGUMENT + " " + STATE,
            "public double tune int double double " + MISSING + " " + UNSUPPORTED + " " + ARGUMENT,
            "public int step int int int " + ARGUMENT + " " + UNSUPPORTED + " " + STATE,
            "public int erase int " + ARGUMENT,
            "public int download",
            "public int wire int int " + ARGUMENT,
            "public double put int double " + ARGUMENT,
            "public int force int int " + ARGUMENT,
            "public int scan int " + ARGUMENT + " " + STATE + " ArithmeticException",
            "public int restart",
            "public int fail",
            "public int bit int " + ARGUMENT,
            "public int out int " + ARGUMENT,
            "public double register int " + ARGUMENT,
            "public int state int int " + MISSING + " " + ARGUMENT,
            "public int count int " + ARGUMENT));
    }
}
