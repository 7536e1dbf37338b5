import java.lang.reflect.Method;
import java.lang.reflect.Modifier;
import java.util.ArrayList;
import java.util.Comparator;
import java.util.List;
import java.util.Random;

/** Every public call with wild numbers, in many states: none may throw. */
public final class NeverThrowsTest {
    private static final int RUNS = 400;
    private static final int CALLS = 500;
    private static final int[] WILD = {Integer.MIN_VALUE, Integer.MIN_VALUE + 1, -1000000, -41, -2, -1, 7, 8, 9, 10,
        11, 39, 40, 41, 99, 100, 9999, 10000, 65536, Integer.MAX_VALUE - 1, Integer.MAX_VALUE};

    public static void main(String[] args) throws IllegalAccessException {
        List<Method> calls = new ArrayList<>();
        for (Method m : StringsSheet.class.getDeclaredMethods()) {
            if (Modifier.isPublic(m.getModifiers())) {
                calls.add(m);
            }
        }
        calls.sort(Comparator.comparing(Method::getName));
        for (int run = 0; run < RUNS; run++) {
            go(calls, new Random(run));
        }
        Checks.end();
    }

    private static void go(List<Method> calls, Random random) throws IllegalAccessException {
        StringsSheet x = new StringsSheet();
        for (int k = 0; k < CALLS; k++) {
            if (k % 100 == 20) {
                feedText(x, random);
            }
            Method m = calls.get(random.nextInt(calls.size()));
            Object[] numbers = new Object[m.getParameterCount()];
            for (int p = 0; p < numbers.length; p++) {
                int v = random.nextInt(4) == 0 ? WILD[random.nextInt(WILD.length)] : random.nextInt(6);
                if (m.getParameterTypes()[p] == long.class) {
                    numbers[p] = random.nextLong();
                } else {
                    numbers[p] = v;
                }
            }
            try {
                m.invoke(x, numbers);
                Checks.due(m.getName(), 0, 0);
            } catch (java.lang.reflect.InvocationTargetException e) {
                Checks.due(m.getName() + " threw " + e.getCause(), 1, 0);
            }
        }
    }

    private static void feedText(StringsSheet x, Random random) {
        x.pavement();
        StringBuilder text = new StringBuilder();
        int corners = 1 + random.nextInt(7);
        for (int c = 0; c < corners; c++) {
            text.append("corner ").append(random.nextInt(100)).append(';');
        }
        for (int c = 1; c < corners; c++) {
            text.append("street ").append(c).append(' ').append(random.nextInt(c)).append(" 3;");
        }
        text.append("goods 9 99 99;");
        for (int s = random.nextInt(6); s > 0; s--) {
            text.append("seller 0 ").append(random.nextInt(corners)).append(';');
        }
        for (int w = random.nextInt(5); w > 0; w--) {
            text.append("watcher ").append(random.nextInt(corners)).append(';');
        }
        for (int c = random.nextInt(7); c > 0; c--) {
            text.append("cellar ").append(random.nextInt(corners)).append(" 99;");
        }
        Checks.feed(x, text.toString());
        x.pavement();
    }
}
