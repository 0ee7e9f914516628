import java.lang.reflect.InvocationTargetException;
import java.lang.reflect.Method;
import java.lang.reflect.Modifier;
import java.util.Arrays;
import java.util.Comparator;
import java.util.Random;

/** No call throws, whatever its arguments and the state are. */
public final class EdgesTest {
    private static final int[] EDGES = {
        Integer.MIN_VALUE, Integer.MIN_VALUE + 1, -65536, -100, -25, -2, -1, 0, 1, 2, 3, 4, 5, 6, 7, 8, 9, 10, 15, 16, 20, 23, 24, 25,
        40, 63, 64, 90, 99, 100, 200, 240, 250, 999, 1439, 1440, 4000, 4001, 65536, Integer.MAX_VALUE - 1, Integer.MAX_VALUE};

    public static void main(String[] args) throws Exception {
        Due due = new Due();
        Method[] face = Arrays.stream(DeepShip.class.getDeclaredMethods())
            .filter(method -> Modifier.isPublic(method.getModifiers()))
            .sorted(Comparator.comparing(Method::getName)).toArray(Method[]::new);
        Random random = new Random(2026);
        for (int run = 0; run < 400; run++) {
            DeepShip x = new DeepShip();
            for (int call = 0; call < 500; call++) {
                Method method = face[random.nextInt(face.length)];
                Object[] with = new Object[method.getParameterCount()];
                for (int i = 0; i < with.length; i++) {
                    int v = EDGES[random.nextInt(EDGES.length)];
                    with[i] = method.getParameterTypes()[i] == long.class ? (Object) (long) (v & 127) : (Object) v;
                }
                due.due(method.getName() + Arrays.toString(with) + " throws", threw(x, method, with), 0);
            }
        }
        due.finish();
    }

    private static int threw(DeepShip x, Method method, Object[] with) throws Exception {
        try {
            method.invoke(x, with);
            return 0;
        } catch (InvocationTargetException e) {
            System.out.println(e.getCause());
            return 1;
        }
    }
}
