import java.lang.reflect.InvocationTargetException;
import java.lang.reflect.Method;
import java.lang.reflect.Modifier;
import java.util.ArrayList;
import java.util.Arrays;
import java.util.Comparator;
import java.util.List;
import java.util.Random;

/** Every call with every kind of number, in every state that such calls lead to: nothing is ever thrown. */
public final class WildTest {
    private static final int[] INTS = {Integer.MIN_VALUE, Integer.MIN_VALUE + 1, -1000001, -101, -11, -5, -4, -3, -2, -1, 0, 1, 2, 3, 4, 5, 6, 7, 8, 9, 10,
        11, 12, 13, 14, 15, 16, 17, 30, 63, 64, 65, 99, 100, 320, 321, 999, 1000, 83520, 83521, Integer.MAX_VALUE - 5, Integer.MAX_VALUE};

    public static void main(String[] args) throws Exception {
        List<Method> face = new ArrayList<>();
        for (Method m : HalfNumber.class.getDeclaredMethods()) if (Modifier.isPublic(m.getModifiers())) face.add(m);
        face.sort(Comparator.comparing(Method::getName));
        int asked = 0;
        for (int seed = 0; seed < 1000; seed++) {
            Random random = new Random(seed);
            HalfNumber x = new HalfNumber();
            int lines = random.nextInt(11);
            for (int k = 0; k < lines; k++) {
                x.line(0, random.nextInt(20), random.nextInt(83521), random.nextInt(7));
                x.line(1, 30 + random.nextInt(20), random.nextInt(83521), random.nextInt(7));
            }
            for (int k = 0; k < 512; k++, asked++) call(x, face.get(random.nextInt(face.size())), random);
        }
        System.out.println("WildTest: " + asked + " calls, none has thrown");
    }

    private static void call(HalfNumber x, Method m, Random random) throws Exception {
        Class<?>[] types = m.getParameterTypes();
        Object[] args = new Object[types.length];
        for (int k = 0; k < args.length; k++) {
            args[k] = types[k] == boolean.class ? (Object) random.nextBoolean() : types[k] == long.class ? (Object) someText(random) : (Object) someInt(random);
        }
        try {
            m.invoke(x, args);
        } catch (InvocationTargetException e) {
            System.out.println(m.getName() + Arrays.toString(args) + " has thrown");
            e.getCause().printStackTrace(System.out);
            System.exit(1);
        }
    }

    private static int someInt(Random random) {
        return random.nextInt(3) == 0 ? INTS[random.nextInt(INTS.length)] : random.nextInt(5);
    }

    private static long someText(Random random) {
        String[] texts = {"off 12; ", "mixed a ", "b 5;    ", "minutes ", "1 500 9 ", "late 3;;", "doubt  9", ";unread ", "12345678"};
        if (random.nextInt(4) == 0) return random.nextLong();
        long v = 0;
        for (char c : texts[random.nextInt(texts.length)].toCharArray()) v = v << 8 | c;
        return v;
    }
}
