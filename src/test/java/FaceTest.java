import java.lang.reflect.Constructor;
import java.lang.reflect.Field;
import java.lang.reflect.Method;
import java.lang.reflect.Modifier;
import java.util.Set;
import java.util.TreeSet;

/** The public face: every constant, constructor and method, and no other member. */
public final class FaceTest {
    public static void main(String[] args) {
        Check check = new Check();
        Set<String> want = new TreeSet<>(Set.of(
            "final int DONE", "final int REFUSED", "final int BAD", "final int LARGE", "final long NONE",
            "new()",
            "int change(int, int, int, int)", "int back()", "int sign(int)", "int clear()", "int define(int)",
            "int fault()", "int drop(int)", "long answer(int, int)", "long total(int)",
            "long count(int, int, int)", "int question(int, int)", "int state(int)"));
        Set<String> got = face(check);
        check.holds("the face is " + want + ", not " + got, got.equals(want));

        check.holds("the class is public and final",
            (JoinKeeper.class.getModifiers() & (Modifier.PUBLIC | Modifier.FINAL)) == (Modifier.PUBLIC | Modifier.FINAL));
        check.due("DONE", JoinKeeper.DONE, 0);
        check.due("REFUSED", JoinKeeper.REFUSED, -1);
        check.due("BAD", JoinKeeper.BAD, -2);
        check.due("LARGE", JoinKeeper.LARGE, -3);
        check.due("NONE", JoinKeeper.NONE, 9000000000000000000L);
        check.end();
    }

    /** Every member that is not private. */
    private static Set<String> face(Check check) {
        Set<String> face = new TreeSet<>();
        for (Field field : JoinKeeper.class.getDeclaredFields()) {
            if (!Modifier.isPrivate(field.getModifiers())) {
                face.add("final " + field.getType() + " " + field.getName());
                check.holds(field + " is a constant", field.toString().startsWith("public static final "));
            }
        }
        for (Constructor<?> constructor : JoinKeeper.class.getDeclaredConstructors()) {
            face.add("new(" + types(constructor.getParameterTypes()) + ")");
            check.holds(constructor + " is public", Modifier.isPublic(constructor.getModifiers()));
        }
        for (Method method : JoinKeeper.class.getDeclaredMethods()) {
            if (!Modifier.isPrivate(method.getModifiers())) {
                face.add(method.getReturnType() + " " + method.getName() + "(" + types(method.getParameterTypes()) + ")");
                check.holds(method + " is public and not static",
                    (method.getModifiers() & (Modifier.PUBLIC | Modifier.STATIC)) == Modifier.PUBLIC);
            }
        }
        return face;
    }

    private static String types(Class<?>[] types) {
        StringBuilder all = new StringBuilder();
        for (Class<?> type : types) {
            all.append(all.length() == 0 ? "" : ", ").append(type);
        }
        return all.toString();
    }
}
