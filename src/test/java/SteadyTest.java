import java.lang.reflect.InvocationTargetException;
import java.lang.reflect.Method;
import java.lang.reflect.Modifier;
import java.util.ArrayList;
import java.util.Comparator;
import java.util.List;
import java.util.NoSuchElementException;
import java.util.Random;

/** Any call with any numbers in any state answers; led alone may throw, and only what it must. */
public final class SteadyTest {
    private static final int[] EXTREMES = {Integer.MIN_VALUE, Integer.MIN_VALUE + 1, -65537, -1000000, -100, -2, -1, 0, 1,
        2, 3, 4, 5, 8, 9, 11, 12, 13, 16, 20, 31, 32, 100, 900, 901, 999, 4095, 4096, 30000, 65536, 65537,
        Integer.MAX_VALUE - 1, Integer.MAX_VALUE};

    private static Object any(Class<?> type, Random random) {
        if (type == boolean.class) return random.nextBoolean();
        int r = random.nextInt(10);
        if (r < 5) return random.nextInt(14) - 1;
        if (r < 9) return EXTREMES[random.nextInt(EXTREMES.length)];
        return random.nextInt();
    }

    private static boolean call(GlassWatch x, Method method, Random random) throws IllegalAccessException {
        Class<?>[] types = method.getParameterTypes();
        Object[] values = new Object[types.length];
        for (int i = 0; i < types.length; i++) values[i] = any(types[i], random);
        try {
            method.invoke(x, values);
            return true;
        } catch (InvocationTargetException e) {
            boolean right = method.getName().equals("led") && e.getCause().getClass() == NoSuchElementException.class;
            if (!right) System.out.println(method.getName() + List.of(values) + " threw " + e.getCause());
            return right;
        }
    }

    public static void main(String[] args) throws IllegalAccessException {
        List<Method> face = new ArrayList<>();
        for (Method m : GlassWatch.class.getDeclaredMethods()) if (Modifier.isPublic(m.getModifiers())) face.add(m);
        face.sort(Comparator.comparing(Method::getName));
        Random random = new Random(1588);
        String[] texts = {Texts.FOUR, Texts.WEST, Texts.FULL, Texts.one("bold", 20, 2, 9, ";noon at 1;shoal 5 5"), ""};
        int wrong = 0;
        int calls = 0;
        for (int run = 0; run < 400; run++) {
            GlassWatch x = new GlassWatch();
            for (int i = 0; i < 512; i++) {
                if (i % 200 == 100) {
                    x.voyage(0);
                    Check.load(x, texts[random.nextInt(texts.length)]);
                }
                if (!call(x, face.get(random.nextInt(face.size())), random)) wrong++;
                calls++;
            }
        }
        // Tapes of any bytes, and of signs that make tokens.
        for (int run = 0; run < 4000; run++) {
            GlassWatch x = new GlassWatch();
            byte[] bytes = new byte[random.nextInt(901)];
            random.nextBytes(bytes);
            if (run % 2 == 0) {
                for (int i = 0; i < bytes.length; i++) bytes[i] = (byte) "voyage from0912; boy".charAt(bytes[i] & 15);
            }
            Check.feed(x, bytes);
            if (x.voyage(bytes.length) != -1 || x.where() < 0 || x.where() > bytes.length) wrong++;
            calls++;
        }
        System.out.println(calls + " calls, " + wrong + " not as due");
        if (wrong != 0) System.exit(1);
    }
}
