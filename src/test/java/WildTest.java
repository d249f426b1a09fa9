import java.lang.reflect.InvocationTargetException;
import java.lang.reflect.Method;
import java.lang.reflect.Modifier;
import java.util.Arrays;
import java.util.Comparator;
import java.util.Random;

/** LANGUAGE.md 7: no call throws, whatever it is given, in whatever state. */
public final class WildTest {
    private static final int[] ODD = {Integer.MIN_VALUE, Integer.MAX_VALUE, -2, -1, 399, 400, 401, 1000, 1_000_001};

    public static void main(String[] args) throws IllegalAccessException {
        Method[] calls = Arrays.stream(StatueRelief.class.getDeclaredMethods())
                .filter(m -> Modifier.isPublic(m.getModifiers()))
                .sorted(Comparator.comparing(Method::getName)).toArray(Method[]::new);
        Random draw = new Random(3);
        for (int run = 0; run < 300; run++) {
            StatueRelief x = new StatueRelief();
            for (int i = 0; i < 512; i++) {
                if (draw.nextInt(12) == 0) {
                    Check.tape(x, Texts.of(draw, draw.nextBoolean()));
                }
                call(x, calls[draw.nextInt(calls.length)], draw);
            }
            Check.so("run " + run + " came to its end", true);
        }
        Check.finish();
    }

    private static void call(StatueRelief x, Method call, Random draw) throws IllegalAccessException {
        Object[] numbers = new Object[call.getParameterCount()];
        for (int i = 0; i < numbers.length; i++) {
            int kind = draw.nextInt(12);
            numbers[i] = kind == 0 ? draw.nextInt() : kind == 1 ? ODD[draw.nextInt(ODD.length)] : draw.nextInt(kind < 4 ? 70 : 9);
        }
        try {
            call.invoke(x, numbers);
        } catch (InvocationTargetException e) {
            Check.so(call.getName() + Arrays.toString(numbers) + " threw " + e.getCause(), false);
        }
    }
}
