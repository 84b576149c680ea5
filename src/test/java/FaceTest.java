import java.lang.reflect.Constructor;
import java.lang.reflect.Field;
import java.lang.reflect.Method;
import java.lang.reflect.Modifier;
import java.util.Set;
import java.util.TreeSet;

/** Tests that the class shows the document's face and nothing else, and keeps nothing in static fields. */
public final class FaceTest {
    private static final String I = " IndexOutOfBoundsException";
    private static final String A = " IllegalArgumentException";
    private static final String S = " IllegalStateException";

    private FaceTest() {
    }

    public static void main(String[] args) {
        same("methods", shownMethods(), dueMethods());
        same("constants", shownFields(), Set.of("int NONE", "int CYAN", "int MAGENTA", "int YELLOW", "int BLACK"));
        constructors();
        check("the class is public and final", Modifier.isPublic(GravureHouse.class.getModifiers())
            && Modifier.isFinal(GravureHouse.class.getModifiers()));
        staticFields(GravureHouse.class);
        for (Class<?> inside : GravureHouse.class.getDeclaredClasses()) {
            check(inside + " is static", Modifier.isStatic(inside.getModifiers()));
            check(inside + " is not public", !Modifier.isPublic(inside.getModifiers())
                && !Modifier.isProtected(inside.getModifiers()));
            staticFields(inside);
        }
        Checks.end(1, 1);
    }

    private static Set<String> dueMethods() {
        return Set.of("void colour(int int int int)" + I + A, "int type(char)" + A + S, "int apply()", "int plates()",
            "void drift(int int int)" + I + A, "int correct(int int int)" + I + A + S, "int key(int int int)" + I + A,
            "int tear()", "void job(int)" + A + S, "int print(int)" + A + S, "int sign()", "int differs(int)" + I + S,
            "boolean claim(int)" + I + S, "int ink(int int int)" + I + A, "boolean dot(int int)" + I,
            "int unit(int int)" + I + A, "int copy(int int)" + I + A, "int next()", "int all(int)" + A);
    }

    private static Set<String> shownMethods() {
        Set<String> shown = new TreeSet<>();
        Set<String> names = new TreeSet<>();
        for (Method method : GravureHouse.class.getDeclaredMethods()) {
            if (!Modifier.isPrivate(method.getModifiers())) {
                check(method + " is public", Modifier.isPublic(method.getModifiers()));
                shown.add(method.getReturnType().getSimpleName() + " " + method.getName() + "("
                    + joined(method.getParameterTypes()) + ")" + ahead(joined(method.getExceptionTypes())));
                names.add(method.getName());
            }
        }
        for (Method method : GravureHouse.class.getDeclaredMethods()) {
            check(method + " bears a public name", !Modifier.isPrivate(method.getModifiers())
                || !names.contains(method.getName()));
        }
        return shown;
    }

    private static Set<String> shownFields() {
        Set<String> shown = new TreeSet<>();
        for (Field field : GravureHouse.class.getDeclaredFields()) {
            if (!Modifier.isPrivate(field.getModifiers())) {
                check(field + " is public", Modifier.isPublic(field.getModifiers()));
                shown.add(field.getType().getSimpleName() + " " + field.getName());
            }
        }
        return shown;
    }

    private static void constructors() {
        Constructor<?>[] all = GravureHouse.class.getDeclaredConstructors();
        check("one constructor", all.length == 1);
        check("public, without arguments", Modifier.isPublic(all[0].getModifiers()) && all[0].getParameterCount() == 0);
    }

    private static void staticFields(Class<?> from) {
        for (Field field : from.getDeclaredFields()) {
            check(field + " is final", !Modifier.isStatic(field.getModifiers())
                || Modifier.isFinal(field.getModifiers()));
        }
    }

    private static String joined(Class<?>[] types) {
        StringBuilder text = new StringBuilder();
        for (Class<?> type : types) {
            text.append(text.length() == 0 ? "" : " ").append(type.getSimpleName());
        }
        return text.toString();
    }

    private static String ahead(String text) {
        return text.isEmpty() ? "" : " " + text;
    }

    private static void same(String what, Set<String> shown, Set<String> due) {
        check(what + " " + shown + ", due are " + due, shown.equals(due));
    }

    private static void check(String what, boolean holds) {
        Checks.count(1, "the public face", holds ? null : "does not hold: " + what);
    }
}
