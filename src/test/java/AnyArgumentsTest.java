import java.lang.reflect.InvocationTargetException;
import java.lang.reflect.Method;
import java.util.Arrays;
import java.util.Comparator;
import java.util.List;
import java.util.Random;

/** No call throws, whatever its arguments and the state are. */
public final class AnyArgumentsTest {
    private static final long[] ODD = {
        Long.MIN_VALUE, Integer.MIN_VALUE, Integer.MIN_VALUE + 1L, -100, -15, -6, -5, -2, -1, 10, 16, 17, 59, 60, 61, 99, 100, 127, 128,
        Integer.MAX_VALUE - 60L, Integer.MAX_VALUE - 1L, Integer.MAX_VALUE, Long.MAX_VALUE
    };

    public static void main(String[] args) throws IllegalAccessException {
        List<Method> calls = Arrays.stream(TermIdeals.class.getDeclaredMethods())
            .filter(each -> java.lang.reflect.Modifier.isPublic(each.getModifiers()))
            .sorted(Comparator.comparing(Method::getName)).toList();
        Random random = new Random(1);
        for (int object = 0; object < 300; object++) {
            TermIdeals x = new TermIdeals();
            for (int i = 0; i < 512; i++) {
                call(x, calls.get(random.nextInt(calls.size())), random);
            }
        }
        Due.end("AnyArgumentsTest");
    }

    private static void call(TermIdeals x, Method method, Random random) throws IllegalAccessException {
        Object[] with = new Object[method.getParameterCount()];
        for (int i = 0; i < with.length; i++) {
            long v = random.nextInt(8) == 0 ? ODD[random.nextInt(ODD.length)] : random.nextInt(1 + random.nextInt(10));
            with[i] = method.getParameterTypes()[i] == long.class ? (Object) v : (Object) (int) v;
        }
        try {
            method.invoke(x, with);
            Due.is(method.getName(), 0, 0);
        } catch (InvocationTargetException e) {
            Due.is(method.getName() + Arrays.toString(with) + " threw " + e.getCause(), 1, 0);
        }
    }
}
