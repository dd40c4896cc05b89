import java.lang.reflect.InvocationTargetException;
import java.lang.reflect.Method;
import java.util.ArrayList;
import java.util.Arrays;
import java.util.Comparator;
import java.util.List;
import java.util.Random;

/**
 * Any arguments in any state, and more calls than the document promises anything for: a call answers, or throws
 * exactly what its signature names, and never what the Java machine throws by itself.
 */
public final class ExtremesTest {
    private static final int[] NUMBERS = {Integer.MIN_VALUE, Integer.MIN_VALUE + 1, -1000, -33, -6, -5, -1, 0, 1, 2, 3, 4, 5, 7, 8,
        9, 10, 15, 20, 31, 32, 33, 39, 40, 41, 50, 51, 999, 1000, 1001, 2000, 2001, Integer.MAX_VALUE - 1, Integer.MAX_VALUE};
    private static final int RUNS = 300;
    private static final int CALLS = 3000;

    public static void main(String[] arguments) throws IllegalAccessException {
        List<Method> calls = new ArrayList<>(Arrays.asList(Twinphase.class.getDeclaredMethods()));
        calls.removeIf(m -> (m.getModifiers() & 1) == 0);
        calls.sort(Comparator.comparing(Method::getName));
        int wrong = 0;
        for (int seed = 0; seed < RUNS && wrong == 0; seed++) {
            Random random = new Random(seed);
            Twinphase x = new Twinphase();
            int wild = 1 + random.nextInt(60);
            for (int i = 0; i < CALLS && wrong == 0; i++) {
                wrong += isFine(x, calls.get(random.nextInt(calls.size())), random, wild) ? 0 : 1;
            }
        }
        System.out.println("ExtremesTest: " + wrong + " wrong");
        System.exit(wrong == 0 ? 0 : 1);
    }

    private static boolean isFine(Twinphase x, Method call, Random random, int wild) throws IllegalAccessException {
        Object[] values = new Object[call.getParameterCount()];
        for (int i = 0; i < values.length; i++) {
            boolean isWild = random.nextInt(wild) == 0;
            int number = isWild ? NUMBERS[random.nextInt(NUMBERS.length)] : random.nextInt(i == 0 && random.nextBoolean() ? 4 : 10);
            values[i] = call.getParameterTypes()[i] == boolean.class ? (Object) (number % 2 == 0) : (Object) number;
        }
        try {
            call.invoke(x, values);
            return true;
        } catch (InvocationTargetException e) {
            for (Class<?> named : call.getExceptionTypes()) if (named == e.getCause().getClass()) return true;
            System.out.println(call.getName() + Arrays.toString(values) + " threw " + e.getCause());
            return false;
        }
    }
}
