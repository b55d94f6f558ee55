import java.lang.reflect.Method;
import java.util.Arrays;
import java.util.Comparator;
import java.util.Random;

/** Any arguments in any state: no call throws, and the same calls give the same answers. */
public final class WildTest {
    private static final int[] FAR = {0, 1, 2, 7, 8, 11, 12, 20, 21, 22, 39, 49, 50, 59, 60, 61, 120, 255, 256, -1, -2, -9, -60,
        127, 128, 32767, Integer.MAX_VALUE, Integer.MIN_VALUE, Integer.MAX_VALUE - 3, Integer.MIN_VALUE + 1};

    public static void main(String[] args) throws Exception {
        Method[] calls = Arrays.stream(SetAgain.class.getDeclaredMethods())
            .filter(m -> java.lang.reflect.Modifier.isPublic(m.getModifiers()))
            .sorted(Comparator.comparing(Method::getName)).toArray(Method[]::new);
        int wrong = 0, passed = 0;
        for (int run = 0; run < 400; run++) {
            SetAgain one = new SetAgain(), other = new SetAgain();
            Random random = new Random(run);
            for (int i = 0; i < 512; i++) {
                Method call = calls[random.nextInt(calls.length)];
                Object[] with = draw(call, random);
                Object first = call.invoke(one, with), second = call.invoke(other, with);
                if (first.equals(second)) passed++;
                else wrong++;
            }
        }
        System.out.println("WildTest: " + passed + " passed, " + wrong + " failed");
        if (wrong != 0) System.exit(1);
    }

    private static Object[] draw(Method call, Random random) {
        Class<?>[] types = call.getParameterTypes();
        Object[] with = new Object[types.length];
        int spread = 1 + random.nextInt(9);
        for (int i = 0; i < types.length; i++) {
            boolean far = random.nextInt(6) == 0;
            int v = far ? FAR[random.nextInt(FAR.length)] : random.nextInt(spread);
            with[i] = types[i] == long.class ? (Object) (far ? random.nextLong() : (long) v) : (Object) v;
        }
        return with;
    }
}
