import java.lang.reflect.InvocationTargetException;
import java.lang.reflect.Method;
import java.lang.reflect.Modifier;
import java.util.Arrays;
import java.util.Comparator;
import java.util.Random;

/** LANGUAGE.md, rule 7: no call throws, whatever its numbers are, in whatever state, behind the 512th call as well. */
public final class NeverThrowsTest {
    private static final Check CHECK = new Check("NeverThrowsTest");
    private static final int OBJECTS = 1500, CALLS = 2000;
    private static final int[] FAR = {Integer.MIN_VALUE, Integer.MIN_VALUE + 1, -65536, -256, -32, -20, -2, -1, 8, 9,
        10, 16, 20, 21, 31, 32, 33, 40, 41, 61, 64, 127, 128, 159, 160, 161, 255, 256, 257, 65535, 65536, 1 << 24,
        1 << 30, Integer.MAX_VALUE - 19, Integer.MAX_VALUE};
    private static final String[] PARTS = {"river 0 9 1;", "bridge 2 7 3 unless 0;", "ferry 0 5 2 0;", "plan 0;",
        "said 0;", "plan 1;", "end 0;", "day 4;", "unless", "river", "river 0", "99", "100", "7", ";", "  ", "?", "z"};

    public static void main(String[] args) throws IllegalAccessException {
        Method[] face = Arrays.stream(RiverSuit.class.getDeclaredMethods())
                .filter(m -> Modifier.isPublic(m.getModifiers()))
                .sorted(Comparator.comparing(Method::getName)).toArray(Method[]::new);
        CHECK.due("methods of the face", face.length, 41);
        for (int seed = 0; seed < OBJECTS; seed++) {
            play(face, new Random(seed), seed);
        }
        CHECK.close();
    }

    private static void play(Method[] face, Random random, int seed) throws IllegalAccessException {
        RiverSuit x = seed % 10 == 0 ? new RiverSuit() : Told.suit(Some.alike(1 + seed % 8));
        for (int i = 0; i < CALLS; i++) {
            if (random.nextInt(12) == 0) {
                Some.feed(x, PARTS[random.nextInt(random.nextInt(3) == 0 ? PARTS.length : 8)]);
            }
            Method m = face[random.nextInt(face.length)];
            Object[] numbers = new Object[m.getParameterCount()];
            for (int p = 0; p < numbers.length; p++) {
                numbers[p] = m.getParameterTypes()[p] == boolean.class ? (Object) random.nextBoolean() : any(random);
            }
            try {
                m.invoke(x, numbers);
            } catch (InvocationTargetException e) {
                CHECK.isTrue("object " + seed + ", call " + i + ": " + m.getName() + Arrays.toString(numbers)
                        + " threw " + e.getCause(), false);
                return;
            }
        }
        CHECK.isTrue("object " + seed, true);
    }

    private static int any(Random random) {
        return switch (random.nextInt(8)) {
            case 0 -> FAR[random.nextInt(FAR.length)];
            case 1 -> random.nextInt();
            case 2 -> random.nextInt(300) - 20;
            default -> random.nextInt(10);
        };
    }
}
