import java.lang.reflect.InvocationTargetException;
import java.lang.reflect.Method;
import java.lang.reflect.Modifier;
import java.lang.reflect.Parameter;
import java.util.Arrays;
import java.util.Comparator;
import java.util.Random;

/** Runs of 512 calls, chosen by a fixed seed, on a Maybehall and on an OptionalHall: both have to answer alike. */
public final class RunsTest {
    private static final int RUNS = 600;
    private static final int CALLS = 512;

    private static final Check check = new Check();
    private static final Random random = new Random(7715);

    public static void main(String[] args) throws Exception {
        Method[] methods = Arrays.stream(Maybehall.class.getDeclaredMethods())
            .filter(method -> Modifier.isPublic(method.getModifiers()))
            .sorted(Comparator.comparing(Method::getName)).toArray(Method[]::new);
        for (int run = 0; run < RUNS; run++) {
            // Some runs stay near 0, where sums and products seldom leave the range.
            run(methods, run % 3 == 0 ? 12 : 999, run % 4 == 0 ? 0 : 5);
        }
        check.end();
    }

    private static void run(Method[] methods, int reach, int wrongOfHundred) throws Exception {
        Maybehall hall = new Maybehall();
        OptionalHall other = new OptionalHall();
        for (int i = 0; i < CALLS; i++) {
            Method method = methods[random.nextInt(methods.length)];
            Object[] told = Arrays.stream(method.getParameters())
                .map(each -> chosen(method, each, reach, wrongOfHundred)).toArray();
            Method same = OptionalHall.class.getMethod(method.getName(), method.getParameterTypes());
            String call = method.getName() + Arrays.toString(told);
            check.due(call, answer(same, other, told), answer(method, hall, told));
        }
        check.due("digest() at the end", other.digest(), hall.digest());
    }

    private static Object chosen(Method method, Parameter parameter, int reach, int wrongOfHundred) {
        if (parameter.getType() == boolean.class) {
            return random.nextBoolean();
        }
        int low = 0;
        int high;
        switch (parameter.getName()) {
            case "number": case "by": low = -reach; high = reach; break;
            case "plain": high = 1; break;
            case "turn": high = method.getName().equals("both") ? 4 : 5; break;
            case "test": high = 4; break;
            case "order": high = 2; break;
            case "what": high = 8; break;
            case "place": high = 20; break;
            case "length": high = 40; break;
            default: high = 5;
        }
        if (random.nextInt(100) < wrongOfHundred) {
            int[] wrong = {low - 1, high + 1, Integer.MIN_VALUE, Integer.MAX_VALUE, -1000, 1000};
            return wrong[random.nextInt(wrong.length)];
        }
        return low + random.nextInt(high - low + 1);
    }

    private static Object answer(Method method, Object hall, Object[] told) throws Exception {
        try {
            return method.invoke(hall, told);
        } catch (InvocationTargetException e) {
            return "throws." + e.getCause().getClass().getSimpleName();
        }
    }
}
