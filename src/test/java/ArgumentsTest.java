import java.lang.reflect.InvocationTargetException;
import java.lang.reflect.Method;
import java.lang.reflect.Modifier;
import java.util.ArrayList;
import java.util.Arrays;
import java.util.List;
import java.util.function.Supplier;

/**
 * LANGUAGE.md, rules 6 and 7: whatever the arguments and the state are, and behind the 512th call too, a call answers,
 * or throws the very class of an exception that its signature names; and the machine throws none.
 */
public final class ArgumentsTest {
    private static final int[] EDGES = {Integer.MIN_VALUE, Integer.MIN_VALUE + 1, Integer.MIN_VALUE + 10, -257, -256,
        -60, -25, -9, -8, -2, -1, 0, 1, 2, 3, 4, 5, 6, 7, 8, 9, 10, 11, 12, 13, 14, 17, 18, 19, 20, 21, 23, 24, 25, 27,
        28, 29, 31, 32, 33, 59, 60, 61, 64, 99, 100, 126, 127, 255, 256, 257, 512, 65536, 1 << 24, 33 << 24,
        Integer.MAX_VALUE - 10, Integer.MAX_VALUE - 1, Integer.MAX_VALUE};
    private static final List<Method> METHODS = new ArrayList<>();

    public static void main(String[] args) throws IllegalAccessException {
        for (Method method : ElectionTabulator.class.getDeclaredMethods()) {
            if (Modifier.isPublic(method.getModifiers())) {
                METHODS.add(method);
            }
        }
        METHODS.sort((one, other) -> one.getName().compareTo(other.getName()));
        Check.is("methods of the face", METHODS.size(), 25);
        everyArgumentInSomeStates();
        longRuns();
        Check.end();
    }

    private static ElectionTabulator fullest() {
        ElectionTabulator x = Check.election(8, 3);
        for (int p = 0; p < 24; p++) {
            Check.read(x, 4 * p + ":" + "abcdefgh".substring(p % 8) + "abcdefgh".substring(0, p % 8) + ";");
        }
        x.set(0, 3);
        x.set(1, 1);
        x.declare();
        x.save();
        Check.type(x, "1:a;1:a;1:a;1:a;1:a;1:a;1:a;1:a;1:a;1:a;1:a;1:a;1:a;1:a;1:a;");
        return x;
    }

    private static ElectionTabulator withNobody() {
        ElectionTabulator x = fullest();
        for (int c = 0; c < 8; c++) {
            x.withdraw(c);
        }
        return x;
    }

    private static void everyArgumentInSomeStates() throws IllegalAccessException {
        List<Supplier<ElectionTabulator>> states = List.of(ElectionTabulator::new, Twins::rich, ArgumentsTest::fullest,
            ArgumentsTest::withNobody);
        for (Supplier<ElectionTabulator> state : states) {
            for (Method method : METHODS) {
                ElectionTabulator x = state.get();
                for (int one : EDGES) {
                    for (int other : method.getParameterCount() < 2 ? new int[] {0} : EDGES) {
                        call(x, method, one, other, other % 3);
                        call(x, method, 0, one, other);
                    }
                }
            }
        }
    }

    /** Runs that go on far behind the 512th call. */
    private static void longRuns() throws IllegalAccessException {
        long seed = 12345;
        for (int run = 0; run < 20; run++) {
            ElectionTabulator x = run % 2 == 0 ? fullest() : new ElectionTabulator();
            for (int call = 0; call < 3000; call++) {
                int[] numbers = new int[4];
                for (int i = 0; i < 4; i++) {
                    seed = seed * 6364136223846793005L + 1442695040888963407L;
                    numbers[i] = (int) (seed >>> 33);
                }
                Method method = METHODS.get(numbers[0] % METHODS.size());
                if (numbers[1] % 3 == 0 && x.count(6) <= 56) {
                    x.append(Check.pack("1:a;"));
                }
                call(x, method, numbers[1] % 9, EDGES[numbers[2] % EDGES.length], numbers[3] % 3);
            }
        }
    }

    private static void call(ElectionTabulator x, Method method, int... numbers) throws IllegalAccessException {
        Object[] arguments = new Object[method.getParameterCount()];
        for (int i = 0; i < arguments.length; i++) {
            arguments[i] = numbers[i];
        }
        String told = method.getName() + Arrays.toString(arguments);
        try {
            Object answer = method.invoke(x, arguments);
            Check.is(told + " answers a number", answer instanceof Float && ((Float) answer).isNaN() ? 1 : 0, 0);
        } catch (InvocationTargetException thrown) {
            Throwable cause = thrown.getCause();
            boolean isNamed = Arrays.asList(method.getExceptionTypes()).contains(cause.getClass());
            Check.is(told + " throws what its signature names, not " + cause, isNamed ? 1 : 0, 1);
            Check.is(told + " throws by itself", "/ by zero".equals(cause.getMessage()) ? 1 : 0, 0);
        }
    }
}
