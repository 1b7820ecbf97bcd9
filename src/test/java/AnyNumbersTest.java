import java.lang.reflect.InvocationTargetException;
import java.lang.reflect.Method;
import java.lang.reflect.Modifier;
import java.util.Arrays;
import java.util.List;

/**
 * Each call with each choice of numbers at the ends of int and round 0: it throws but what its throws clause names, by
 * the program itself, and then nothing has changed.
 */
public final class AnyNumbersTest {
    private static final int[] NUMBERS = {Integer.MIN_VALUE, -1, 0, 1, Integer.MAX_VALUE};
    private static int answered = 0;
    private static int refused = 0;

    private AnyNumbersTest() {
    }

    /** The choice of this number for such parameters; null if there are not so many. */
    private static Object[] choice(Class<?>[] kinds, int number) {
        Object[] chosen = new Object[kinds.length];
        int left = number;
        for (int i = 0; i < kinds.length; i++) {
            int count = kinds[i] == boolean.class ? 2 : NUMBERS.length;
            chosen[i] = kinds[i] == boolean.class ? (Object) (left % 2 == 1) : (Object) NUMBERS[left % count];
            left /= count;
        }
        return left > 0 ? null : chosen;
    }

    /** What the call throws; null if it answers. */
    private static Throwable thrownBy(Method call, Ironbark x, Object[] arguments) {
        try {
            call.invoke(x, arguments);
            return null;
        } catch (InvocationTargetException e) {
            return e.getCause();
        } catch (IllegalAccessException e) {
            return e;
        }
    }

    private static void tryAll(String firm, Edges.Made made) {
        List<?>[] shown = new List<?>[Shown.WAYS];
        for (int way = 0; way < Shown.WAYS; way++) {
            shown[way] = Shown.by(way, made.firm());
        }
        for (Method call : Ironbark.class.getDeclaredMethods()) {
            if (Modifier.isPublic(call.getModifiers())) {
                int number = 0;
                for (Object[] c = choice(call.getParameterTypes(), 0); c != null; c = choice(call.getParameterTypes(), number)) {
                    tryOne(firm, made, call, c, shown);
                    number++;
                }
            }
        }
    }

    private static void tryOne(String firm, Edges.Made made, Method call, Object[] arguments, List<?>[] shown) {
        Throwable thrown = thrownBy(call, made.firm(), arguments);
        if (thrown == null) {
            answered++;
            return;
        }
        refused++;
        String what = firm + ": " + call.getName() + Arrays.toString(arguments);
        boolean isNamed = Arrays.asList(call.getExceptionTypes()).contains(thrown.getClass());
        Check.same(what + " throws " + thrown, isNamed && Check.isThrownByProgram(thrown), true);
        for (int way = 0; way < Shown.WAYS; way++) {
            Ironbark x = made.firm();
            thrownBy(call, x, arguments);
            Check.same(what + " changes nothing, way " + way, Shown.by(way, x), shown[way]);
        }
    }

    public static void main(String[] arguments) {
        tryAll("new", Ironbark::new);
        tryAll("busy", Firm::busy);
        tryAll("full", Firm::full);
        tryAll("wrecks", () -> Firm.withWrecks(1, 1));
        tryAll("the end", Firm::atTheEnd);
        System.out.println("  " + answered + " calls answered, " + refused + " refused");
        Check.same("some are answered", answered > 300, true);
        Check.same("some are refused", refused > 5000, true);
        Check.end();
    }
}
