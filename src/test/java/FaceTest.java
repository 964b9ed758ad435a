import java.lang.reflect.Constructor;
import java.lang.reflect.Field;
import java.lang.reflect.Method;
import java.lang.reflect.Modifier;
import java.util.Arrays;
import java.util.Set;
import java.util.TreeSet;

/** The class shows the document's face and nothing else. */
public final class FaceTest {
    public static void main(String[] args) {
        Check check = new Check();
        check.isTrue("the class is public", Modifier.isPublic(DecimalRun.class.getModifiers()));
        check.isTrue("the class is final", Modifier.isFinal(DecimalRun.class.getModifiers()));
        check.same("visible members", visibleMembers(), Set.of(
            "DecimalRun[]", "int feed[int]", "int length[]", "void clear[]", "void reset[]",
            "int run[int] throws [IllegalArgumentException, ArithmeticException, IllegalStateException]",
            "int fault[]", "int steps[]", "int outLength[]", "int out[int]", "int variable[int]",
            "int decimals[int]", "int scale[]"));
        for (Class<?> inside : DecimalRun.class.getDeclaredClasses()) {
            check.isTrue(inside + " is static", Modifier.isStatic(inside.getModifiers()));
            check.isTrue(inside + " is not public", !Modifier.isPublic(inside.getModifiers()));
        }
        check.end();
    }

    private static Set<String> visibleMembers() {
        Set<String> members = new TreeSet<>();
        for (Field field : DecimalRun.class.getDeclaredFields()) {
            if (!Modifier.isPrivate(field.getModifiers())) {
                members.add(field.toString());
            }
        }
        for (Constructor<?> made : DecimalRun.class.getDeclaredConstructors()) {
            if (!Modifier.isPrivate(made.getModifiers())) {
                members.add(made.getName() + names(made.getParameterTypes()));
            }
        }
        for (Method method : DecimalRun.class.getDeclaredMethods()) {
            if (!Modifier.isPrivate(method.getModifiers())) {
                members.add(described(method));
            }
        }
        return members;
    }

    private static String described(Method method) {
        String face = method.getReturnType().getSimpleName() + " " + method.getName()
            + names(method.getParameterTypes());
        Class<?>[] thrown = method.getExceptionTypes();
        return thrown.length == 0 ? face : face + " throws " + names(thrown);
    }

    private static String names(Class<?>[] types) {
        return Arrays.toString(Arrays.stream(types).map(Class::getSimpleName).toArray());
    }
}
