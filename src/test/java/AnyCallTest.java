import java.lang.reflect.InvocationTargetException;
import java.lang.reflect.Method;
import java.lang.reflect.Modifier;
import java.util.ArrayList;
import java.util.Comparator;
import java.util.List;
import java.util.Random;

/** Any calls with any numbers, in any order: none may throw, and the same calls give the same answers. */
public final class AnyCallTest {
    private static final int[] EDGES = {Integer.MIN_VALUE, Integer.MIN_VALUE + 1, -100000, -129, -100, -99, -2, -1, 0, 1, 2, 3,
        4, 5, 8, 9, 10, 11, 40, 41, 47, 48, 49, 99, 100, 255, 256, 999, 1000, 1023, 1024, 9999, 99999, 100000,
        Integer.MAX_VALUE - 1, Integer.MAX_VALUE};
    private static final String SIGNS = "0123456789fes+=;";

    public static void main(String[] args) throws IllegalAccessException {
        List<Method> face = new ArrayList<>();
        for (Method m : ThreeMasters.class.getDeclaredMethods()) {
            if (Modifier.isPublic(m.getModifiers())) {
                face.add(m);
            }
        }
        face.sort(Comparator.comparing(Method::getName));
        for (int seed = 0; seed < 300; seed++) {
            Due.is("seed " + seed + ", once more", run(face, seed), run(face, seed));
        }
        Due.end();
    }

    private static long run(List<Method> face, int seed) throws IllegalAccessException {
        Random random = new Random(seed);
        ThreeMasters x = Due.plan(seed % 3 == 0 ? "" : "9f+6=0;3e=4;12s+7=8;8f=5;2e+5=6;99f+11=2;1s=7;1e=3;5f=1;3s=8");
        long sum = 0;
        for (int i = 0; i < 450; i++) {
            Method m = face.get(random.nextInt(face.size()));
            if (m.getName().equals("wipe") && random.nextInt(10) != 0) {
                continue;
            }
            Object[] numbers = new Object[m.getParameterCount()];
            for (int k = 0; k < numbers.length; k++) {
                numbers[k] = random.nextInt(3) == 0 ? EDGES[random.nextInt(EDGES.length)] : random.nextInt(6);
            }
            if (m.getName().equals("type") && random.nextInt(4) != 0) {
                numbers[0] = (int) SIGNS.charAt(random.nextInt(SIGNS.length()));
            }
            sum = 31 * sum + answer(x, m, numbers, "seed " + seed);
        }
        return sum;
    }

    private static long answer(ThreeMasters x, Method m, Object[] numbers, String run) throws IllegalAccessException {
        try {
            return ((Number) m.invoke(x, numbers)).longValue();
        } catch (InvocationTargetException thrown) {
            Due.holds(run + ": " + m + " threw " + thrown.getCause(), false);
            return 0;
        }
    }
}
