import java.lang.reflect.InvocationTargetException;
import java.lang.reflect.Method;
import java.util.ArrayList;
import java.util.Arrays;
import java.util.List;

/** Whatever the arguments and however many the calls: a call answers, or the program throws what is promised. */
public final class AnyArgumentsTest {
    private static final int[] NUMBERS = {Integer.MIN_VALUE, -2000, -3, -2, -1, 0, 1, 2, 3, 4, 5, 7, 8, 9, 10, 15, 16,
        99, 100, 300, 301, 1999, 2000, 2001, Integer.MAX_VALUE};

    public static void main(String[] args) throws IllegalAccessException {
        for (boolean isRising : new boolean[] {true, false}) {
            callAll(new Crossdockery(), isRising);
            callAll(Docks.busy(), isRising);
            callAll(Docks.full(), isRising);
        }
        Check.finish();
    }

    /** The methods are called on the same object, by their names: events stand before questions and behind them. */
    private static void callAll(Crossdockery dock, boolean isRising) throws IllegalAccessException {
        Method[] methods = Crossdockery.class.getDeclaredMethods();
        Arrays.sort(methods, (one, other) -> one.getName().compareTo(other.getName()) * (isRising ? 1 : -1));
        for (Method method : methods) {
            if (java.lang.reflect.Modifier.isPublic(method.getModifiers())) {
                callWithAll(dock, method, new ArrayList<>());
            }
        }
    }

    private static void callWithAll(Crossdockery dock, Method method, List<Object> given)
            throws IllegalAccessException {
        int next = given.size();
        if (next == method.getParameterCount()) {
            call(dock, method, given.toArray());
            return;
        }
        if (method.getParameterTypes()[next] == boolean.class) {
            callWithNext(dock, method, given, true);
            callWithNext(dock, method, given, false);
        } else {
            for (int number : NUMBERS) {
                callWithNext(dock, method, given, number);
            }
        }
    }

    private static void callWithNext(Crossdockery dock, Method method, List<Object> given, Object next)
            throws IllegalAccessException {
        given.add(next);
        callWithAll(dock, method, given);
        given.remove(given.size() - 1);
    }

    private static void call(Crossdockery dock, Method method, Object[] given) throws IllegalAccessException {
        String what = method.getName() + Arrays.toString(given);
        try {
            method.invoke(dock, given);
        } catch (InvocationTargetException e) {
            Check.same(what + " throws " + e.getCause(), isPromised(method, e.getCause()), true);
        }
        Check.same(what + " leaves the minute", dock.now() >= 0 && dock.now() <= 2000, true);
    }

    private static boolean isPromised(Method method, Throwable thrown) {
        boolean isListed = Arrays.asList(method.getExceptionTypes()).contains(thrown.getClass());
        return isListed && thrown instanceof RuntimeException
                && Check.nameOf((RuntimeException) thrown).equals(thrown.getClass().getSimpleName());
    }
}
