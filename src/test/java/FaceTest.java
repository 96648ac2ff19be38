import java.lang.reflect.Constructor;
import java.lang.reflect.Field;
import java.lang.reflect.Method;
import java.lang.reflect.Modifier;
import java.util.Arrays;

/** The public face: just the document's constructor and methods, and nothing else that is not private. */
public final class FaceTest {
    private static final Due due = new Due("FaceTest");
    private static final String INDEX = "IndexOutOfBoundsException";
    private static final String ARGUMENT = "IllegalArgumentException";
    private static final String STATE = "IllegalStateException";
    private static final String[] FACE = {
        "int addLand(int, int) " + ARGUMENT + " " + STATE,
        "int audit(int) " + INDEX,
        "int change(int) " + ARGUMENT,
        "int coins(int, int) " + INDEX,
        "int count(int) " + INDEX,
        "long digest()",
        "int fish(int, int) " + INDEX + " " + ARGUMENT,
        "int foresee(int, int) " + ARGUMENT + " " + INDEX,
        "int land(int, int) " + INDEX,
        "double mean()",
        "int missing(int) " + INDEX,
        "int next(int) " + INDEX,
        "int pass(int) " + ARGUMENT,
        "int richest()",
        "int setTide(int, int) " + INDEX + " " + ARGUMENT,
        "int told(int, int) " + INDEX,
        "int waits(int) " + INDEX,
        "int wish(int, int) " + INDEX + " " + ARGUMENT + " " + STATE,
        "int withdraw(int) " + INDEX + " " + STATE,
    };

    public static void main(String[] args) {
        int modifiers = WishWell.class.getModifiers();
        due.same("modifiers of the class", Modifier.toString(modifiers), "public final");
        due.same("package", WishWell.class.getPackageName(), "");
        Constructor<?>[] constructors = WishWell.class.getDeclaredConstructors();
        due.same("constructors", constructors.length, 1);
        due.same("constructor", constructors[0].toString(), "public WishWell()");
        methods();
        fields();
        due.close();
    }

    private static void methods() {
        String[] open = new String[WishWell.class.getDeclaredMethods().length];
        int many = 0;
        for (Method method : WishWell.class.getDeclaredMethods()) {
            if (Modifier.isPrivate(method.getModifiers())) {
                due.same("private " + method.getName(), isFaceName(method.getName()) ? 1 : 0, 0);
            } else {
                due.same(method.getName(), Modifier.toString(method.getModifiers()), "public");
                open[many++] = form(method);
            }
        }
        open = Arrays.copyOf(open, many);
        Arrays.sort(open, (a, b) -> a.substring(a.indexOf(' ')).compareTo(b.substring(b.indexOf(' '))));
        due.same("methods", String.join("; ", open), String.join("; ", FACE));
    }

    private static String form(Method method) {
        StringBuilder form = new StringBuilder(method.getReturnType().getSimpleName() + " " + method.getName() + "(");
        String gap = "";
        for (Class<?> type : method.getParameterTypes()) {
            form.append(gap).append(type.getSimpleName());
            gap = ", ";
        }
        form.append(")");
        for (Class<?> type : method.getExceptionTypes()) {
            form.append(" ").append(type.getSimpleName());
        }
        return form.toString();
    }

    private static boolean isFaceName(String name) {
        for (String form : FACE) {
            if (form.contains(" " + name + "(")) {
                return true;
            }
        }
        return false;
    }

    private static void fields() {
        for (Field field : WishWell.class.getDeclaredFields()) {
            due.same(field.getName(), Modifier.isPrivate(field.getModifiers()) ? 1 : 0, 1);
        }
    }
}
