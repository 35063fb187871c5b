import java.lang.reflect.InvocationTargetException;
import java.lang.reflect.Method;
import java.util.ArrayList;
import java.util.Comparator;
import java.util.List;
import java.util.Random;

/** Calls with any arguments in any state: none throws, and the same calls answer the same on another object. */
public final class WildCallsTest {
    private static final Checks CHECKS = new Checks("WildCallsTest");
    private static final int[] WILD = {0, 1, 2, 3, 5, 7, 8, 9, 10, 40, 100, 900, -1, -2, -3, 1000, 1 << 30, Integer.MAX_VALUE,
        Integer.MIN_VALUE};

    public static void main(String[] args) throws IllegalAccessException {
        List<Method> methods = new ArrayList<>();
        for (Method m : OneOfEach.class.getDeclaredMethods()) {
            if (java.lang.reflect.Modifier.isPublic(m.getModifiers())) {
                methods.add(m);
            }
        }
        methods.sort(Comparator.comparing(Method::getName));
        for (int run = 0; run < 300; run++) {
            play(run, methods);
        }
        CHECKS.end();
    }

    private static void play(int run, List<Method> methods) throws IllegalAccessException {
        Random random = new Random(run);
        OneOfEach x = new OneOfEach();
        OneOfEach y = new OneOfEach();
        String text = "shop;kind price " + (1 + random.nextInt(9)) + ";kind price 3 hidden;kind price 4 group 2;buyer purse "
            + random.nextInt(20) + " odds 3;buyer purse 9;wants : 9 + who * kind - sold * " + random.nextInt(30) + ";";
        Checks.tell(x, text);
        Checks.tell(y, text);
        for (int i = 0; i < 480; i++) {
            Method m = methods.get(random.nextInt(methods.size()));
            Object[] values = new Object[m.getParameterCount()];
            for (int p = 0; p < values.length; p++) {
                int v = random.nextInt(3) == 0 ? WILD[random.nextInt(WILD.length)] : random.nextInt(9) - 1;
                values[p] = m.getParameterTypes()[p] == long.class ? (Object) (long) v : (Object) v;
            }
            try {
                long here = ((Number) m.invoke(x, values)).longValue();
                CHECKS.due("run " + run + ": " + m.getName(), ((Number) m.invoke(y, values)).longValue(), here);
            } catch (InvocationTargetException e) {
                CHECKS.due("run " + run + ": " + m.getName() + " threw " + e.getCause(), 1, 0);
            }
        }
    }
}
