import java.lang.reflect.InvocationTargetException;
import java.lang.reflect.Method;
import java.lang.reflect.Modifier;
import java.util.ArrayList;
import java.util.Comparator;
import java.util.List;
import java.util.Random;

/** Any numbers in any state: nothing is thrown, and NONE comes with every STATUS but 0. */
public final class NeverThrowsTest {
    private static final int[] EDGES = {0, 1, -1, 2, 3, 4, 5, 6, 7, 9, 10, 12, 14, 20, 24, 40, 899, 900, 901, 999, -999, 1000,
        -1000, 9999, -9999, 32767, 32768, -32768, 65535, 65536, 1 << 30, Integer.MAX_VALUE, Integer.MIN_VALUE};

    public static void main(String[] args) {
        Check check = new Check();
        List<Method> calls = new ArrayList<>();
        for (Method method : RhombInflator.class.getDeclaredMethods()) {
            if (Modifier.isPublic(method.getModifiers())) {
                calls.add(method);
            }
        }
        calls.sort(Comparator.comparing(Method::getName));
        Random random = new Random(11);
        for (int run = 0; run < 300; run++) {
            RhombInflator object = new RhombInflator();
            if (run % 2 == 0) {
                object.start(run / 2 % 4);
                object.level(run / 8 % 6);
                object.borrow(0);
                object.lay(run % 2, run % 5, 0, 0, 0, run % 10, 0);
            }
            for (int n = 0; n < 500; n++) {
                ask(check, object, calls.get(random.nextInt(calls.size())), random);
            }
        }
        check.end("NeverThrowsTest");
    }

    private static void ask(Check check, RhombInflator object, Method method, Random random) {
        Class<?>[] types = method.getParameterTypes();
        Object[] given = new Object[types.length];
        for (int k = 0; k < types.length; k++) {
            int small = random.nextInt(12);
            int edge = EDGES[random.nextInt(EDGES.length)];
            int any = random.nextInt();
            int sort = random.nextInt(8);
            given[k] = types[k] == boolean.class ? (Object) random.nextBoolean() : (Object) (sort < 5 ? small : sort < 7 ? edge : any);
        }
        String name = method.getName();
        try {
            long answer = ((Number) method.invoke(object, given)).longValue();
            boolean free = name.equals("status") || name.equals("feed") || name.equals("fault");
            check.holds(name + " gives NONE with STATUS " + object.status(), free || object.status() == 0 || answer == -1);
        } catch (InvocationTargetException thrown) {
            check.holds(name + java.util.Arrays.toString(given) + " throws nothing, but " + thrown.getCause(), false);
        } catch (IllegalAccessException thrown) {
            check.holds(name + " can be called", false);
        }
    }
}
