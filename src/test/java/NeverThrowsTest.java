import java.lang.reflect.InvocationTargetException;
import java.lang.reflect.Method;
import java.util.Arrays;
import java.util.Comparator;
import java.util.Random;

/** Every method, in any order and far beyond 512 calls, with small, edge and wild numbers: nothing is ever thrown. */
public final class NeverThrowsTest {
    private static final int[] EDGES = {Integer.MIN_VALUE, Integer.MAX_VALUE, -1, 0, 1, 5, 6, 20, 21, 100, 9999, 10000};
    private static final Due DUE = new Due();

    public static void main(String[] args) throws IllegalAccessException {
        Method[] methods = TeaBlends.class.getDeclaredMethods();
        methods = Arrays.stream(methods).filter(m -> m.toString().startsWith("public ")).toArray(Method[]::new);
        Arrays.sort(methods, Comparator.comparing(Method::getName));
        Random random = new Random(28);
        for (int run = 0; run < 40; run++) {
            TeaBlends shop = new TeaBlends();
            for (int call = 0; call < 3000; call++) {
                Method method = methods[random.nextInt(methods.length)];
                Object[] numbers = new Object[method.getParameterCount()];
                for (int i = 0; i < numbers.length; i++) {
                    boolean isLong = method.getParameterTypes()[i] == long.class;
                    numbers[i] = isLong ? (Object) wild(random) : (Object) (int) wild(random);
                }
                DUE.due(method.getName() + Arrays.toString(numbers) + " throws", doesThrow(method, shop, numbers), 0);
            }
        }
        DUE.end();
    }

    private static long wild(Random random) {
        switch (random.nextInt(4)) {
            case 0:
                return EDGES[random.nextInt(EDGES.length)];
            case 1:
                return random.nextLong() >> random.nextInt(64);
            default:
                return random.nextInt(21);
        }
    }

    private static int doesThrow(Method method, TeaBlends shop, Object[] numbers) throws IllegalAccessException {
        try {
            method.invoke(shop, numbers);
            return 0;
        } catch (InvocationTargetException thrown) {
            return 1;
        }
    }
}
