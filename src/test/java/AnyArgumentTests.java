import java.lang.reflect.InvocationTargetException;
import java.lang.reflect.Method;
import java.lang.reflect.Modifier;
import java.util.ArrayList;
import java.util.Arrays;
import java.util.List;
import java.util.Random;

/** No call throws, whatever its arguments and the state are. */
public final class AnyArgumentTests {
    private static final int[] NUMBERS = {Integer.MIN_VALUE, Integer.MIN_VALUE + 1, -1260, -7, -2, -1, 0, 1, 2, 4, 5, 6,
        7, 12, 13, 14, 21, 22, 39, 40, 41, 99, 100, 399, 400, 401, 500, 501, 1259, 1260, 1261, 78124, 1000000, 1000001,
        Integer.MAX_VALUE - 1, Integer.MAX_VALUE};
    private static final String[] LAWS = {"lets", "bars", "takes 1/left", "lets if one<other",
        "lets;takes 1000*1000*1000*1000", "lets if 1/0=1"};
    private static final Check C = new Check();

    private AnyArgumentTests() {
    }

    /** A street of one of several kinds: without beans, with one, with most, full of all there is room for. */
    private static BeanStreet street(int kind) {
        BeanStreet x = new BeanStreet();
        int[][] rows = {{}, {3}, {4, 4}, {0, 1}, {2, 0, 1}, {0, 0, 1, 1, 2, 3, 4}};
        int[] row = rows[kind % rows.length];
        if (row.length > 0) {
            Check.row(x, row);
        }
        x.terms(0, kind % 2);
        Check.law(x, LAWS[kind % LAWS.length]);
        x.force(0);
        for (int i = 0; kind >= rows.length && i < 13; i++) {
            x.wall(0, i);
            x.clue(i, i / 2);
            x.swapIf(0, 1 + i % 6);
            Check.law(x, LAWS[i % LAWS.length]);
            x.feed(i, i, i, i, i);
        }
        return x;
    }

    private static void call(Method method, BeanStreet x, Object[] arguments) {
        try {
            C.isTrue(method.getName(), method.invoke(x, arguments) != null);
        } catch (InvocationTargetException e) {
            C.isTrue(method.getName() + Arrays.toString(arguments) + " threw " + e.getCause(), false);
        } catch (IllegalAccessException e) {
            C.isTrue(method.getName() + " can't be called", false);
        }
    }

    private static void oneByOne(Method method, int kind) {
        int many = method.getParameterCount();
        BeanStreet x = street(kind);
        for (int place = 0; place < many; place++) {
            for (int number : NUMBERS) {
                Object[] arguments = new Object[many];
                Arrays.fill(arguments, 0);
                arguments[place] = number;
                call(method, x, arguments);
            }
        }
        if (many == 0) {
            call(method, x, new Object[0]);
        }
    }

    private static void drawn(List<Method> face, Random random, int kind) {
        BeanStreet x = street(kind);
        for (int i = 0; i < 400; i++) {
            Method method = face.get(random.nextInt(face.size()));
            Object[] arguments = new Object[method.getParameterCount()];
            for (int k = 0; k < arguments.length; k++) {
                arguments[k] = NUMBERS[random.nextInt(NUMBERS.length)];
            }
            call(method, x, arguments);
        }
    }

    public static void main(String[] args) {
        List<Method> face = new ArrayList<>();
        for (Method method : BeanStreet.class.getDeclaredMethods()) {
            if (Modifier.isPublic(method.getModifiers())) {
                face.add(method);
            }
        }
        face.sort((one, other) -> one.getName().compareTo(other.getName()));
        Random random = new Random(8);
        for (int kind = 0; kind < 12; kind++) {
            for (Method method : face) {
                oneByOne(method, kind);
            }
            for (int i = 0; i < 20; i++) {
                drawn(face, random, kind);
            }
        }
        C.finish();
    }
}
