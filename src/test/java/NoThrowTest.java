import java.lang.reflect.Method;
import java.lang.reflect.Modifier;
import java.util.Arrays;
import java.util.Comparator;
import java.util.Random;

/** Every public method with arguments of all sizes, in all kinds of states: none may throw, none may answer late. */
public final class NoThrowTest {
    private static final int[] EDGES = {Integer.MIN_VALUE, Integer.MIN_VALUE + 1, -3, -2, -1, 0, 1, 2, 3, 4, 5, 6, 7, 8, 12,
        13, 15, 16, 17, 20, 23, 24, 31, 32, 63, 64, 100, 200, 255, 256, 543, 544, 1023, 1024, 31999, 32000, 63999, 64000,
        Integer.MAX_VALUE - 1, Integer.MAX_VALUE};

    private NoThrowTest() {
    }

    public static void main(String[] args) throws Exception {
        Method[] methods = Arrays.stream(CraftHouse.class.getDeclaredMethods())
            .filter(each -> Modifier.isPublic(each.getModifiers()))
            .sorted(Comparator.comparing(Method::getName))
            .toArray(Method[]::new);
        if (methods.length != 33) {
            System.out.println("the face has " + methods.length + " methods");
            System.exit(1);
        }
        Random random = new Random(7);
        for (int run = 0; run < 60; run++) {
            CraftHouse x = new CraftHouse();
            for (int i = 0; i < 1000; i++) {
                Method method = methods[random.nextInt(methods.length)];
                Object[] values = new Object[method.getParameterCount()];
                for (int k = 0; k < values.length; k++) {
                    values[k] = method.getParameterTypes()[k] == boolean.class ? (Object) random.nextBoolean()
                        : (Object) EDGES[random.nextInt(EDGES.length)];
                }
                try {
                    method.invoke(x, values);
                } catch (ReflectiveOperationException thrown) {
                    System.out.println(method.getName() + Arrays.toString(values) + " threw " + thrown.getCause());
                    System.exit(1);
                }
            }
        }
        System.out.println("no call threw");
    }
}
