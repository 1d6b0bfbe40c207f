import java.lang.reflect.Constructor;
import java.lang.reflect.Field;
import java.lang.reflect.Method;
import java.lang.reflect.Modifier;
import java.util.Set;
import java.util.TreeSet;

/** The public face is the document's, and nothing else of the class can be seen from outside. */
public final class FaceTest {
    private static final String BOUNDS = " IndexOutOfBoundsException";
    private static final String ARGUMENT = " IllegalArgumentException";
    private static final String STATE = " IllegalStateException";
    private static final Check CHECK = new Check();

    public static void main(String[] args) {
        CHECK.same("modifiers of the class",
                Modifier.toString(RoommateHouse.class.getModifiers()), "public final");
        Set<String> due = new TreeSet<>(Set.of(
                "public static final int NONE",
                "public RoommateHouse()",
                "public int people(int)" + ARGUMENT,
                "public int put(int,int)" + BOUNDS + ARGUMENT + STATE,
                "public int remove(int,int)" + BOUNDS,
                "public int move(int,int,int)" + BOUNDS,
                "public int at(int,int)" + BOUNDS,
                "public int place(int,int)" + BOUNDS,
                "public int pair(int,int)" + BOUNDS + ARGUMENT + STATE,
                "public int partner(int)" + BOUNDS,
                "public int blocking()",
                "public int satisfy()",
                "public int matchings()",
                "public int matched(int)" + BOUNDS,
                "public int extreme(int,boolean)" + BOUNDS,
                "public int together(int,int)" + BOUNDS,
                "public int party(int)" + BOUNDS,
                "public int next(int)" + BOUNDS,
                "public int parties(boolean)",
                "public int size()",
                "public int astray()"));
        CHECK.same("the face", seen().toString(), due.toString());
        noPrivateMethodBearsAPublicName();
        CHECK.finish();
    }

    private static Set<String> seen() {
        Set<String> seen = new TreeSet<>();
        for (Field field : RoommateHouse.class.getDeclaredFields()) {
            if (!Modifier.isPrivate(field.getModifiers())) {
                seen.add(Modifier.toString(field.getModifiers()) + " "
                        + field.getType().getSimpleName() + " " + field.getName());
            }
        }
        for (Constructor<?> made : RoommateHouse.class.getDeclaredConstructors()) {
            if (!Modifier.isPrivate(made.getModifiers())) {
                seen.add(Modifier.toString(made.getModifiers()) + " " + made.getName()
                        + names("(", made.getParameterTypes(), ")"));
            }
        }
        for (Method method : RoommateHouse.class.getDeclaredMethods()) {
            if (!Modifier.isPrivate(method.getModifiers())) {
                seen.add(Modifier.toString(method.getModifiers()) + " "
                        + method.getReturnType().getSimpleName() + " " + method.getName()
                        + names("(", method.getParameterTypes(), ")")
                        + thrown(method.getExceptionTypes()));
            }
        }
        return seen;
    }

    private static String names(String open, Class<?>[] types, String close) {
        StringBuilder text = new StringBuilder(open);
        for (int i = 0; i < types.length; i++) {
            text.append(i == 0 ? "" : ",").append(types[i].getSimpleName());
        }
        return text.append(close).toString();
    }

    private static String thrown(Class<?>[] types) {
        StringBuilder text = new StringBuilder();
        for (Class<?> type : types) {
            text.append(' ').append(type.getSimpleName());
        }
        return text.toString();
    }

    private static void noPrivateMethodBearsAPublicName() {
        Set<String> open = new TreeSet<>();
        for (Method method : RoommateHouse.class.getDeclaredMethods()) {
            if (Modifier.isPublic(method.getModifiers())) {
                open.add(method.getName());
            }
        }
        for (Method method : RoommateHouse.class.getDeclaredMethods()) {
            if (Modifier.isPrivate(method.getModifiers()) && open.contains(method.getName())) {
                CHECK.same("a private method's name", method.getName(), "one of its own");
            }
        }
    }
}
