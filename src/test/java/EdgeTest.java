import java.lang.reflect.InvocationTargetException;
import java.lang.reflect.Method;
import java.util.ArrayList;
import java.util.Comparator;
import java.util.List;
import java.util.NoSuchElementException;
import java.util.Random;

/** Drawn calls with arguments far outside: nothing but NoSuchElementException ever comes, and only where it is declared. */
public final class EdgeTest {
    private static final int[] EDGES = {Integer.MIN_VALUE, Integer.MIN_VALUE + 1, -65536, -101, -33, -32, -31, -11, -10, -9, -5,
        -4, -3, -2, -1, 0, 1, 2, 3, 4, 5, 6, 7, 8, 9, 10, 11, 12, 13, 30, 31, 32, 33, 40, 41, 60, 61, 76, 80, 81, 255, 511, 1023,
        1024, 65535, 65536, 0x72393B72, 0x303E3140, 0x30210000, 0x66000000, Integer.MAX_VALUE - 1, Integer.MAX_VALUE};

    public static void main(String[] args) throws IllegalAccessException {
        List<Method> methods = new ArrayList<>();
        for (Method m : LeastWished.class.getMethods()) {
            if (m.getDeclaringClass() == LeastWished.class) {
                methods.add(m);
            }
        }
        methods.sort(Comparator.comparing(Method::getName));
        Random draw = new Random(4);
        int calls = 0;
        int wrong = 0;
        for (int run = 0; run < 300; run++) {
            LeastWished x = new LeastWished();
            x.floors(2 + draw.nextInt(8));
            x.crowd(draw.nextInt(), draw.nextInt(11));
            for (int k = 0; k < 509; k++) {
                Method m = methods.get(draw.nextInt(methods.size()));
                if (m.getName().equals("floors") && draw.nextInt(20) != 0) {
                    continue;
                }
                calls++;
                wrong += isWrong(x, m, drawn(m.getParameterCount(), draw)) ? 1 : 0;
            }
        }
        System.out.println("EdgeTest: " + methods.size() + " methods, " + calls + " calls, " + wrong + " wrong");
        if (wrong != 0 || methods.size() != 47 - 1) {
            System.exit(1);
        }
    }

    private static Object[] drawn(int n, Random draw) {
        Object[] args = new Object[n];
        for (int i = 0; i < n; i++) {
            args[i] = draw.nextBoolean() ? draw.nextInt(10) : EDGES[draw.nextInt(EDGES.length)];
        }
        return args;
    }

    private static boolean isWrong(LeastWished x, Method m, Object[] args) throws IllegalAccessException {
        try {
            m.invoke(x, args);
            return false;
        } catch (InvocationTargetException e) {
            if (e.getCause() instanceof NoSuchElementException && m.getExceptionTypes().length == 1) {
                return false;
            }
            System.out.println(m + " threw " + e.getCause());
            return true;
        }
    }
}
