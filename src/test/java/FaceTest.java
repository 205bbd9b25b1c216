import java.lang.reflect.Constructor;
import java.lang.reflect.Field;
import java.lang.reflect.Method;
import java.lang.reflect.Modifier;
import java.util.ArrayList;
import java.util.List;
import java.util.TreeSet;

/** "The public face": the document's constants, constructor and methods, and no other ones. */
public final class FaceTest extends Check {
    private static final String[] FACE = {
        "int NONE",
        "()",
        "int open(int) throws IllegalArgumentException",
        "int code(int, int) throws IndexOutOfBoundsException, IllegalStateException",
        "int seal(int) throws IndexOutOfBoundsException, IllegalStateException",
        "int argument(int)",
        "int transact(int, int, int, int) throws IndexOutOfBoundsException, IllegalArgumentException",
        "int used()",
        "int result()",
        "int balance(int) throws IndexOutOfBoundsException",
        "int storage(int, int) throws IndexOutOfBoundsException",
        "int keys()",
        "int logged()",
        "int log(int) throws IndexOutOfBoundsException",
        "int supply()",
    };

    public static void main(String[] args) {
        sentence("public final class CallLedger");
        int modifiers = CallLedger.class.getModifiers();
        due("public", Modifier.isPublic(modifiers) ? 1 : 0, 1);
        due("final", Modifier.isFinal(modifiers) ? 1 : 0, 1);
        due("all that is not private", told().toString(), new TreeSet<>(List.of(FACE)).toString());
        finish();
    }

    private static TreeSet<String> told() {
        TreeSet<String> told = new TreeSet<>();
        for (Field field : CallLedger.class.getDeclaredFields()) {
            if (!Modifier.isPrivate(field.getModifiers())) {
                told.add(field.getType().getSimpleName() + " " + field.getName());
            }
        }
        for (Constructor<?> made : CallLedger.class.getDeclaredConstructors()) {
            if (!Modifier.isPrivate(made.getModifiers())) {
                told.add(names(made.getParameterTypes(), "(", ")"));
            }
        }
        for (Method method : CallLedger.class.getDeclaredMethods()) {
            if (!Modifier.isPrivate(method.getModifiers()) && !method.isSynthetic()) {
                String throwing = method.getExceptionTypes().length == 0
                        ? "" : names(method.getExceptionTypes(), " throws ", "");
                told.add(method.getReturnType().getSimpleName() + " " + method.getName()
                        + names(method.getParameterTypes(), "(", ")") + throwing);
            }
        }
        return told;
    }

    private static String names(Class<?>[] types, String before, String behind) {
        List<String> names = new ArrayList<>();
        for (Class<?> type : types) {
            names.add(type.getSimpleName());
        }
        return before + String.join(", ", names) + behind;
    }
}
