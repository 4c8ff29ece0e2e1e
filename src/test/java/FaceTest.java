import java.lang.reflect.Constructor;
import java.lang.reflect.Field;
import java.lang.reflect.Method;
import java.lang.reflect.Modifier;
import java.util.ArrayList;
import java.util.Arrays;
import java.util.List;
import java.util.TreeSet;

/** The public face is the document's, and nothing beside it can be reached from outside. */
public final class FaceTest {
    private static final String[] FACE = {
        "int addLorry(boolean, int, int) IllegalArgumentException IllegalStateException",
        "int addTransfer(int, int, int) IndexOutOfBoundsException IllegalArgumentException IllegalStateException",
        "int planDoor(int, int) IndexOutOfBoundsException IllegalStateException",
        "int arrive(int) IndexOutOfBoundsException IllegalStateException UnsupportedOperationException",
        "int sendOff(int) IndexOutOfBoundsException IllegalStateException",
        "int addGang(int, int, int) IllegalArgumentException IllegalStateException",
        "int moveGang(int, int) IndexOutOfBoundsException",
        "int pass(int) IllegalArgumentException IllegalStateException",
        "int now()",
        "int power(int) IndexOutOfBoundsException",
        "char stateOf(int) IndexOutOfBoundsException",
        "int lorryAt(int) IndexOutOfBoundsException NoSuchElementException",
        "int inQueue(int, int) IndexOutOfBoundsException NoSuchElementException",
        "int unloaded(int) IndexOutOfBoundsException",
        "int ready(int) IndexOutOfBoundsException",
        "int loaded(int) IndexOutOfBoundsException",
        "int leftAt(int) IndexOutOfBoundsException NoSuchElementException",
        "int leftBehind()",
        "int waited(int) IndexOutOfBoundsException",
        "int ownMinutes(int) IndexOutOfBoundsException",
        "int debtor(int) IndexOutOfBoundsException NoSuchElementException",
        "int invoice(int, int) IndexOutOfBoundsException",
        "int invoiceAnew(int, int) IndexOutOfBoundsException",
        "long balance(int) IndexOutOfBoundsException",
        "double meanWait() ArithmeticException",
        "float dockShare() ArithmeticException",
        "int ways()",
        "int leastWays()",
        "int bestDoor(int) IndexOutOfBoundsException IllegalStateException",
        "boolean isSound()",
    };

    public static void main(String[] args) {
        Check.same("NONE", Crossdockery.NONE, -1);
        Check.same("OWN", Crossdockery.OWN, -2);
        Check.same("modifiers of the class", Modifier.toString(Crossdockery.class.getModifiers()), "public final");
        Check.same("methods", methods(), new TreeSet<>(Arrays.asList(FACE)));
        Check.same("constructors", constructors(), List.of("public Crossdockery()"));
        Check.same("fields", new TreeSet<>(fields()), new TreeSet<>(List.of("NONE", "OWN")));
        Check.finish();
    }

    private static TreeSet<String> methods() {
        TreeSet<String> found = new TreeSet<>();
        for (Method method : Crossdockery.class.getDeclaredMethods()) {
            if (!Modifier.isPrivate(method.getModifiers())) {
                found.add(describe(method));
            }
        }
        return found;
    }

    private static String describe(Method method) {
        StringBuilder text = new StringBuilder();
        text.append(method.getReturnType().getSimpleName()).append(' ').append(method.getName());
        List<String> types = new ArrayList<>();
        for (Class<?> type : method.getParameterTypes()) {
            types.add(type.getSimpleName());
        }
        text.append('(').append(String.join(", ", types)).append(')');
        for (Class<?> type : method.getExceptionTypes()) {
            text.append(' ').append(type.getSimpleName());
        }
        return text.toString();
    }

    private static List<String> constructors() {
        List<String> found = new ArrayList<>();
        for (Constructor<?> constructor : Crossdockery.class.getDeclaredConstructors()) {
            found.add(constructor.toString());
        }
        return found;
    }

    private static List<String> fields() {
        List<String> found = new ArrayList<>();
        for (Field field : Crossdockery.class.getDeclaredFields()) {
            if (!Modifier.isPrivate(field.getModifiers())) {
                found.add(field.getName());
            }
        }
        return found;
    }
}
