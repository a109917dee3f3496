import java.lang.reflect.InvocationTargetException;
import java.lang.reflect.Method;
import java.lang.reflect.Modifier;
import java.util.ArrayList;
import java.util.Arrays;
import java.util.Comparator;
import java.util.List;

/**
 * No call throws, whatever its numbers are and whatever was called ahead of it; not behind the 512th call,
 * either, though what is answered there is free. The calls are drawn by an own generator with a fixed seed.
 */
public final class NeverThrowsTest {
    private static final Check CHECK = new Check("NeverThrowsTest");
    private static final int[] EDGES = {Integer.MIN_VALUE, Integer.MIN_VALUE + 1, Integer.MIN_VALUE + 10, -65536, -101,
        -14, -2, -1, 0, 1, 2, 3, 4, 5, 6, 7, 8, 9, 10, 11, 12, 13, 14, 17, 18, 19, 20, 21, 24, 25, 36, 40, 46, 47, 72,
        79, 80, 81, 97, 127, 128, 9999, 10000, 65536, 1 << 30, Integer.MAX_VALUE - 20, Integer.MAX_VALUE - 1,
        Integer.MAX_VALUE};
    private static long state = 512L;

    public static void main(String[] args) throws IllegalAccessException {
        List<Method> calls = calls();
        for (int run = 0; run < 300; run++) edgesAlone(calls);
        for (int run = 0; run < 200; run++) edgesAmongOthers(calls, 512);
        edgesAmongOthers(calls, 20000);
        CHECK.done();
    }

    private static List<Method> calls() {
        List<Method> calls = new ArrayList<>();
        for (Method method : ColourStacks.class.getDeclaredMethods()) {
            if (Modifier.isPublic(method.getModifiers())) calls.add(method);
        }
        // the order that reflection tells is free
        calls.sort(Comparator.comparing(Method::getName));
        return calls;
    }

    private static int draw(int below) {
        state = state * 6364136223846793005L + 1442695040888963407L;
        return (int) ((state >>> 33) % below);
    }

    private static void call(ColourStacks x, Method method, boolean wide) throws IllegalAccessException {
        Object[] numbers = new Object[method.getParameterCount()];
        for (int i = 0; i < numbers.length; i++) numbers[i] = wide || draw(6) == 0 ? EDGES[draw(EDGES.length)] : draw(4);
        try {
            method.invoke(x, numbers);
            CHECK.holds(method.getName(), true);
        } catch (InvocationTargetException e) {
            CHECK.holds(method.getName() + Arrays.toString(numbers) + " threw " + e.getCause(), false);
        }
    }

    /** Each call by edges alone, on a new object, on a full one and on one between. */
    private static void edgesAlone(List<Method> calls) throws IllegalAccessException {
        ColourStacks between = new ColourStacks();
        Check.sheets(between, "mirror 9 10,9,0,1,10;clear 0 0,0,0,0,1");
        Check.stack(between, "ab");
        ColourStacks full = new ColourStacks();
        for (int i = 0; i < 8; i++) Check.sheets(full, Check.even("glass", i, 10));
        for (int i = 0; i < 6; i++) Check.stack(full, "abcdef");
        for (int list = 0; list < 4; list++) full.list(list, 18);
        full.spell(0);
        full.image();
        for (Method method : calls) {
            call(new ColourStacks(), method, true);
            call(between, method, true);
            call(full, method, true);
        }
    }

    private static void edgesAmongOthers(List<Method> calls, int count) throws IllegalAccessException {
        ColourStacks x = new ColourStacks();
        for (int i = 0; i < count; i++) {
            if (draw(40) == 0) Check.sheets(x, Check.even("smoked", draw(10), draw(11)));
            if (draw(30) == 0) Check.stack(x, "abab".substring(draw(4)));
            call(x, calls.get(draw(calls.size())), false);
        }
    }
}
