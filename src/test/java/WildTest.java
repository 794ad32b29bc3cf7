import java.lang.reflect.InvocationTargetException;
import java.lang.reflect.Method;
import java.lang.reflect.Modifier;
import java.util.Arrays;
import java.util.Comparator;
import java.util.Random;

/** No call ever throws, for any arguments in any state: seeded runs of calls with wild arguments among plain ones. */
final class WildTest {
    private static final int RUNS = 1500, CALLS = 512;
    private static final int[] EDGES = {Integer.MIN_VALUE, Integer.MIN_VALUE + 1, -1000, -25, -24, -9, -5, -4, -3, -2, -1,
        0, 1, 2, 3, 4, 5, 7, 8, 9, 10, 11, 12, 19, 20, 21, 23, 24, 25, 39, 40, 41, 50, 51, 71, 72, 73, 99, 100, 101, 120,
        121, 128, 129, 200, 201, 999, 1000, 1 << 16, 1 << 30, Integer.MAX_VALUE - 1, Integer.MAX_VALUE};

    public static void main(String[] args) {
        Method[] calls = Arrays.stream(SwitchYard.class.getDeclaredMethods())
                .filter(method -> Modifier.isPublic(method.getModifiers()))
                .sorted(Comparator.comparing(Method::getName)).toArray(Method[]::new);
        int wrong = 0;
        for (int seed = 0; seed < RUNS && wrong < 5; seed++) {
            wrong += run(calls, new Random(seed), seed) ? 0 : 1;
        }
        System.out.println(wrong == 0 ? "no call threw" : wrong + " runs threw");
        if (wrong != 0) {
            System.exit(1);
        }
    }

    private static boolean run(Method[] calls, Random random, int seed) {
        SwitchYard yard = new SwitchYard();
        int most = 2 + random.nextInt(6);
        int wild = random.nextInt(30);
        for (int i = 0; i < CALLS; i++) {
            Method call = calls[random.nextInt(calls.length)];
            Object[] arguments = new Object[call.getParameterCount()];
            for (int k = 0; k < arguments.length; k++) {
                boolean isFlag = call.getParameterTypes()[k] == boolean.class;
                int number = random.nextInt(100) < wild ? EDGES[random.nextInt(EDGES.length)] : random.nextInt(most);
                arguments[k] = isFlag ? (Object) random.nextBoolean() : (Object) number;
            }
            try {
                long answer = ((Number) call.invoke(yard, arguments)).longValue();
                if (call.getReturnType() == int.class && answer < SwitchYard.NONE) {
                    System.out.println("seed " + seed + ": " + call.getName() + Arrays.toString(arguments) + " answered " + answer);
                    return false;
                }
            } catch (IllegalAccessException | InvocationTargetException e) {
                System.out.println("seed " + seed + ": " + call.getName() + Arrays.toString(arguments) + " " + e.getCause());
                return false;
            }
        }
        return true;
    }
}
