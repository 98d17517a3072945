import java.lang.reflect.InvocationTargetException;
import java.lang.reflect.Method;
import java.lang.reflect.Modifier;
import java.util.Arrays;
import java.util.Comparator;
import java.util.NoSuchElementException;
import java.util.Random;

/** No arguments in any state make a call throw, but for ship() and row(); and the face is the document's. */
public final class AnyArgumentsTest {
    private static final int[] EDGES = {Integer.MIN_VALUE, Integer.MIN_VALUE + 1, -65536, -4, -3, -2, -1, 0, 1, 2, 3, 4, 5, 6,
        7, 8, 12, 13, 20, 40, 60, 61, 80, 99, 100, 1 << 16, 1 << 30, Integer.MAX_VALUE - 1, Integer.MAX_VALUE};

    public static void main(String[] args) throws IllegalAccessException {
        Method[] face = Arrays.stream(StruckColours.class.getDeclaredMethods())
            .filter(m -> Modifier.isPublic(m.getModifiers())).toArray(Method[]::new);
        Arrays.sort(face, Comparator.comparing(Method::getName));
        if (face.length != 50) {
            System.out.println("the face has " + face.length + " methods, due are 50");
            System.exit(1);
        }
        Random random = new Random(1);
        for (int run = 0; run < 3000; run++) {
            StruckColours x = new StruckColours();
            Check.tell(x, "a5;b3;c4;a2;d9;b9".substring(0, 3 * random.nextInt(6) + 2));
            x.ships();
            for (int call = 0; call < 300; call++) {
                calls(x, face[random.nextInt(face.length)], random);
            }
        }
        System.out.println("nothing else was thrown");
    }

    private static void calls(StruckColours x, Method method, Random random) throws IllegalAccessException {
        Object[] values = new Object[method.getParameterCount()];
        for (int i = 0; i < values.length; i++) {
            values[i] = random.nextInt(4) == 0 ? EDGES[random.nextInt(EDGES.length)] : random.nextInt(5);
        }
        if (method.getName().equals("sign") && random.nextBoolean()) {
            String signs = "f0n1s0a1y2bso+-*/<>=()abcd;12345";
            int p = random.nextInt(signs.length() - 4);
            values[0] = signs.charAt(p) << 24 | signs.charAt(p + 1) << 16 | signs.charAt(p + 2) << 8 | signs.charAt(p + 3);
        }
        try {
            method.invoke(x, values);
        } catch (InvocationTargetException e) {
            boolean may = method.getName().equals("ship") || method.getName().equals("row");
            if (!may || !(e.getCause() instanceof NoSuchElementException)) {
                System.out.println(method.getName() + Arrays.toString(values) + " threw " + e.getCause());
                System.exit(1);
            }
        }
    }
}
