import java.lang.reflect.InvocationTargetException;
import java.lang.reflect.Method;
import java.lang.reflect.Modifier;
import java.util.ArrayList;
import java.util.Comparator;
import java.util.List;

/** Any calls, whatever their arguments: none throws, and the same calls answer the same. */
public final class AnyCallsTest {
    private static final int[] INTS = {-1, 0, 1, 2, 3, 4, 5, 6, 7, 8, 9, 10, 12, 13, 14, 16, 19, 20, 23, 24, 25,
        32, 47, 48, 49, 64, 99, 100, 101, 302, 9901, 9999, 10000, 99999, 100000, 998, 999, 1000, -2, -3,
        Integer.MIN_VALUE, Integer.MAX_VALUE, Integer.MIN_VALUE + 1, Integer.MAX_VALUE - 1, 1 << 30, -1000001};
    private static final String[] TEXTS = {"go 9999;", "read;", "last ", "hold 99,", "read", "load 99;", "back 5;",
        "till 50;", ",", ";", " ", "9", "z", "\u00ff", "go 10;", "last go ", "9999,", "back"};

    private static long seed = 1;
    private static int used = 0;

    public static void main(String[] args) throws IllegalAccessException {
        List<Method> calls = new ArrayList<>();
        for (Method m : StrengthHouse.class.getDeclaredMethods()) {
            if (Modifier.isPublic(m.getModifiers())) {
                calls.add(m);
            }
        }
        calls.sort(Comparator.comparing(Method::getName));
        for (int round = 0; round < 300; round++) {
            long first = answers(calls, round);
            Due.due("the same calls of round " + round, answers(calls, round), first);
        }
        Due.finish();
    }

    private static int any(int below) {
        seed = seed * 6364136223846793005L + 1442695040888963407L;
        return (int) ((seed >>> 33) % below);
    }

    private static long answers(List<Method> calls, int round) throws IllegalAccessException {
        seed = round;
        StrengthHouse x = new StrengthHouse();
        boolean easy = round % 3 != 0;
        long all = 0;
        // A house is used for 512 calls; feeding a text takes two.
        used = 0;
        while (used < 511) {
            all = 31 * all + answer(x, calls.get(any(calls.size())), easy);
        }
        return all;
    }

    private static long answer(StrengthHouse x, Method call, boolean easy) throws IllegalAccessException {
        if (call.getName().equals("feed") && any(4) > 0) {
            String text = TEXTS[any(TEXTS.length)];
            Due.feed(x, text);
            used += 2;
            return x.count(4);
        }
        Object[] given = new Object[call.getParameterCount()];
        for (int i = 0; i < given.length; i++) {
            int v = easy && any(10) > 0 ? any(4) : INTS[any(INTS.length)];
            given[i] = call.getParameterTypes()[i] == long.class ? (Object) (v * 0x123456789abcdefL) : (Object) v;
        }
        if (easy && call.getName().equals("sheet")) {
            given[1] = 8 << any(3);
            given[2] = any(25);
        }
        if (easy && call.getName().equals("piece")) {
            given[0] = any(6);
            given[2] = 1 + any(99);
            given[4] = 2 + any(11);
        }
        used++;
        try {
            return ((Number) call.invoke(x, given)).longValue();
        } catch (InvocationTargetException e) {
            Due.due(call.getName() + java.util.Arrays.toString(given) + " threw " + e.getCause(), 1, 0);
            return -1;
        }
    }
}
