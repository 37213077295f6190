import java.lang.reflect.InvocationTargetException;
import java.lang.reflect.Method;
import java.lang.reflect.Modifier;
import java.util.ArrayList;
import java.util.Comparator;
import java.util.List;
import java.util.Random;

/** No call throws, for any numbers in any state; and what is refused by a negative answer changes nothing. */
public final class AnyNumberTest {
    private static final Due due = new Due("AnyNumberTest");
    private static final int[] EDGES = {Integer.MIN_VALUE, Integer.MIN_VALUE + 1, -65536, -129, -5, -4, -3, -2, -1, 0, 1,
        2, 3, 4, 5, 6, 9, 10, 19, 20, 21, 39, 40, 41, 60, 61, 127, 128, 160, 65535, 65536, Integer.MAX_VALUE - 1,
        Integer.MAX_VALUE};

    public static void main(String[] args) throws IllegalAccessException {
        List<Method> calls = new ArrayList<>();
        for (Method m : EyeRota.class.getDeclaredMethods()) {
            if (Modifier.isPublic(m.getModifiers())) {
                calls.add(m);
            }
        }
        // reflection promises no order, and a run must be the same each time
        calls.sort(Comparator.comparing(Method::getName));
        for (int run = 0; run < 400; run++) {
            go(new Random(run), calls, run);
        }
        due.close();
    }

    private static void go(Random random, List<Method> calls, int run) throws IllegalAccessException {
        EyeRota x = run % 4 == 0 ? new EyeRota()
                : Due.told("plain 0;young 1;old 2;dreamer 0;plain 1;rota 0 1 2 3 4 4 3 2 1 0;work 0 0 9 3;tell 3 0 4 0;");
        for (int c = 0; c < 400; c++) {
            Method m = calls.get(random.nextInt(calls.size()));
            Object[] numbers = new Object[m.getParameterCount()];
            for (int i = 0; i < numbers.length; i++) {
                numbers[i] = random.nextInt(3) == 0 ? EDGES[random.nextInt(EDGES.length)] : random.nextInt(7) - 1;
            }
            String before = state(x);
            String call = "run " + run + ": " + m.getName() + java.util.Arrays.toString(numbers);
            try {
                long answer = ((Number) m.invoke(x, numbers)).longValue();
                boolean refused = answer == EyeRota.BAD || answer == EyeRota.FULL || answer == EyeRota.STATE;
                if (refused) {
                    due.is(call + " changed what there is", state(x).equals(before) ? 1 : 0, 1);
                }
            } catch (InvocationTargetException e) {
                due.is(call + " threw " + e.getCause(), 1, 0);
            }
        }
    }

    private static String state(EyeRota x) {
        StringBuilder s = new StringBuilder();
        for (int a = 0; a < 10; a++) {
            s.append(x.rota(a)).append(' ').append(x.rule(a)).append(' ').append(x.count(a)).append(' ');
            for (int b = 0; b < 5; b++) {
                s.append(x.one(a, b)).append(' ').append(x.work(a, b)).append(' ').append(x.turn(a, b)).append(' ');
                s.append(x.telling(a, b)).append(' ').append(x.thing(b, a)).append(' ').append(x.thing(b, -4)).append(' ');
            }
        }
        return s.append(x.fault()).append(' ').append(x.torn()).toString();
    }
}
