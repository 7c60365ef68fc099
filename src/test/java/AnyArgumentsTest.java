import java.lang.reflect.InvocationTargetException;
import java.lang.reflect.Method;
import java.lang.reflect.Modifier;
import java.util.Arrays;
import java.util.Comparator;

/** No call throws, whatever it is told, in states that are empty, full and between. */
public final class AnyArgumentsTest {
    private static final int[] NUMBERS = {Integer.MIN_VALUE, -1000, -64, -2, -1, 0, 1, 4, 5, 6, 7, 8, 9, 10, 15, 16,
        31, 32, 60, 61, 63, 64, 99, 100, 255, 256, 999, 1 << 30, Integer.MAX_VALUE};
    private static final int MOST_CALLS = 512;
    private static final Checks checks = new Checks("AnyArgumentsTest");

    private BrideNotKnown x;
    private int calls = MOST_CALLS;
    private final int state;

    private AnyArgumentsTest(int state) {
        this.state = state;
    }

    private static BrideNotKnown made(int state) {
        switch (state) {
            case 0:
                return new BrideNotKnown();
            case 1:
                return Checks.valleyOf("bb000;bs101;bf202;bc303;bt404;bm505;bb663;bf921;g0000;g6363;g3512;g0101;g6300;");
            case 2:
                return Checks.valleyOf("g0000;g6363;l19;y60;");
            case 3:
                return Checks.valleyOf("bb000;bm901;bt012;g6300;l09;w0;g0000;w1;y01;");
            default:
                BrideNotKnown x = Checks.valleyOf("bb000;bb000;g0000;g0000;l19;w0;w1;");
                x.image();
                Checks.numbers(x, 0, 99, 1, 2, 3, 4, 5, 6, 7, 8, 9, 10, 11, 12, 13, 14);
                Checks.letters(x, "bb000;g6363;w0;w1;y60;t25;l19;bb0");
                return x;
        }
    }

    /** An object that has calls left. */
    private BrideNotKnown next() {
        if (calls >= MOST_CALLS) {
            x = made(state);
            calls = 96 + 96;
        }
        calls++;
        return x;
    }

    private void call(Method m, Object... arguments) throws Exception {
        int thrown = 0;
        try {
            m.invoke(next(), arguments);
        } catch (InvocationTargetException e) {
            thrown = 1;
            System.out.println(m + " of " + Arrays.toString(arguments) + ": " + e.getCause());
        }
        checks.due(m.getName() + " throws", thrown, 0);
    }

    private void all(Method m) throws Exception {
        int many = m.getParameterCount();
        if (many == 0) {
            call(m);
            return;
        }
        for (int a : NUMBERS) {
            if (many == 1) {
                call(m, a);
                continue;
            }
            for (int b : NUMBERS) {
                if (many == 2) {
                    call(m, a, b);
                    continue;
                }
                for (int c : NUMBERS) {
                    call(m, a, b, c);
                }
            }
        }
    }

    public static void main(String[] args) throws Exception {
        for (int state = 0; state <= 4; state++) {
            AnyArgumentsTest run = new AnyArgumentsTest(state);
            Method[] methods = BrideNotKnown.class.getDeclaredMethods();
            Arrays.sort(methods, Comparator.comparing(Method::toString));
            for (Method m : methods) {
                if (Modifier.isPublic(m.getModifiers())) {
                    run.all(m);
                    run.all(m);
                }
            }
        }
        checks.end();
    }
}
