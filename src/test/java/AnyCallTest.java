import java.lang.reflect.InvocationTargetException;
import java.lang.reflect.Method;
import java.lang.reflect.Modifier;
import java.util.Arrays;
import java.util.Comparator;

/**
 * Any arguments in any state: each call answers, or throws an exception of a class that its own clause names. What
 * the machine throws by itself is of another class. The calls go on far behind the 512th, where answers are free.
 */
public final class AnyCallTest {
    private static final int[] NUMBERS = {0, -1, 1, 13, 1000, Integer.MIN_VALUE, Integer.MAX_VALUE};

    public static void main(String[] args) throws IllegalAccessException {
        Method[] calls = Figurehouse.class.getDeclaredMethods();
        Arrays.sort(calls, Comparator.comparing(Method::getName));
        Figurehouse[] houses = {new Figurehouse(), Edges.areasAlone(), Edges.itemsAlone(), Edges.some(), Edges.full()};
        for (Figurehouse house : houses) {
            for (Method call : calls) {
                if (Modifier.isPublic(call.getModifiers())) {
                    callsWithAll(house, call);
                }
            }
        }
        Check.end("AnyCallTest");
    }

    private static void callsWithAll(Figurehouse house, Method call) throws IllegalAccessException {
        Class<?>[] kinds = call.getParameterTypes();
        Object[] arguments = new Object[kinds.length];
        int all = 1;
        for (int place = 0; place < kinds.length; place++) {
            all *= NUMBERS.length;
        }
        for (int one = 0; one < all; one++) {
            int rest = one;
            for (int place = 0; place < kinds.length; place++) {
                int number = NUMBERS[rest % NUMBERS.length];
                arguments[place] = kinds[place] == boolean.class ? (Object) (number > 0) : (Object) number;
                rest /= NUMBERS.length;
            }
            throwsWhatItNames(house, call, arguments);
        }
    }

    private static void throwsWhatItNames(Figurehouse house, Method call, Object[] arguments)
            throws IllegalAccessException {
        String unnamed = "";
        try {
            call.invoke(house, arguments);
        } catch (InvocationTargetException wrapped) {
            Class<?> kind = wrapped.getCause().getClass();
            if (!Arrays.asList(call.getExceptionTypes()).contains(kind)) {
                unnamed = kind.getName() + " for " + Arrays.toString(arguments);
            }
        }
        Check.is(call.getName() + " throws what it does not name", unnamed, "");
    }
}
