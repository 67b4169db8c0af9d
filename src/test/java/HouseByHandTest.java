import java.lang.reflect.InvocationTargetException;
import java.lang.reflect.Method;
import java.lang.reflect.Modifier;
import java.util.ArrayList;
import java.util.Arrays;
import java.util.List;
import java.util.Map;
import java.util.TreeMap;

/** Any calls (promises 1 to 42): each answer against that of HouseByHand, which is told the same ones. */
public final class HouseByHandTest {
    private static final int ROUNDS = 1500;
    private static final int CALLS = 512;
    /** So many calls an act may take, and those at the end. */
    private static final int MOST_OF_AN_ACT = 120;

    /** The calls that go on by themselves, each with the least and the most of its numbers. */
    private static final Map<String, int[]> ASKS = new TreeMap<>();
    private static final Map<String, Method> FACE = new TreeMap<>();
    private static final int[] WILD = {-1, -2, -3, 5, 6, 7, 8, 9, 10, 11, 12, 13, 14, 15, 20, 24, 25, 32, 99, 100,
        101, 999, 1000, 9901, 99999, 100000, Integer.MIN_VALUE, Integer.MAX_VALUE, 1 << 30, -1000001};

    private static long seed = 5;
    private static StrengthHouse x;
    private static HouseByHand hand;
    private static List<String> calls;

    public static void main(String[] args) throws IllegalAccessException {
        for (Method m : StrengthHouse.class.getDeclaredMethods()) {
            if (Modifier.isPublic(m.getModifiers())) {
                FACE.put(m.getName(), m);
            }
        }
        asks();
        for (int round = 0; round < ROUNDS; round++) {
            x = new StrengthHouse();
            hand = new HouseByHand();
            calls = new ArrayList<>();
            for (int piece = 0; piece < any(1, 6); piece++) {
                makePiece();
                makeTrace(piece);
            }
            makeProgram();
            while (calls.size() < CALLS - MOST_OF_AN_ACT) {
                act();
            }
            lookAtAll();
        }
        Due.finish();
    }

    private static void asks() {
        ASKS.put("pieceIs", new int[] {0, 13, 0, 5});
        ASKS.put("as", new int[] {0, 13, 0, 5});
        ASKS.put("answer", new int[] {0, 13, 0, 115});
        ASKS.put("reading", new int[] {0, 13, 0, 12, 0, 1});
        ASKS.put("ran", new int[] {0, 3});
        ASKS.put("line", new int[] {0, 13, 0, 2});
        ASKS.put("yields", new int[] {0, 13, 0, 20});
        ASKS.put("top", new int[] {0, 13});
        ASKS.put("breaks", new int[] {0, 13, 0, 100});
        ASKS.put("spent", new int[] {0, 13, 0, 11});
        ASKS.put("number", new int[] {0, 13, 0, 3});
        ASKS.put("curve", new int[] {0, 0, 0, 40, 0, 3});
        ASKS.put("odd", new int[] {0, 0, 0, 3, 0, 100});
        ASKS.put("sure", new int[] {0, 0, 0, 3, 1, 9, 1, 9});
        ASKS.put("few", new int[] {1, 9, 1, 9});
        ASKS.put("prove", new int[] {1, 5, 0, 4, 101, 9999, 0, 99});
        ASKS.put("led", new int[] {0, 5, 0, 99999, 0, 1});
        ASKS.put("enter", new int[] {0, 1, 0, 3, 0, 5});
        ASKS.put("entryIs", new int[] {0, 19, 0, 3});
        ASKS.put("back", new int[] {0, 19, 0, 19});
        ASKS.put("book", new int[] {0, 1, 0, 3});
        ASKS.put("hangs", new int[] {0, 5});
        ASKS.put("drift", new int[] {2, 12});
        ASKS.put("voice", new int[] {0, 13, 0, 3, -200, 200});
        ASKS.put("body", new int[] {0, 12});
        ASKS.put("put", new int[] {0, 3, 0, 23, -300, 70000});
        ASKS.put("move", new int[] {0, 3, 0, 12, 0, 3, 0, 12, 0, 12});
        ASKS.put("image", new int[] {});
        ASKS.put("restore", new int[] {});
        ASKS.put("tell", new int[] {-2, 50});
        ASKS.put("check", new int[] {0, 3, 0, 13});
        ASKS.put("run", new int[] {0, 3, 0, 13});
        ASKS.put("count", new int[] {0, 7});
        ASKS.put("told", new int[] {1, 6});
    }

    private static int any(int least, int most) {
        seed = seed * 6364136223846793005L + 1442695040888963407L;
        return least + (int) ((seed >>> 33) % ((long) most - least + 1));
    }

    /** Both are asked; the first answer that isn't as due is told with all calls ahead of it. */
    private static long ask(String call, long... given) throws IllegalAccessException {
        Method m = FACE.get(call);
        Object[] each = new Object[given.length];
        for (int i = 0; i < given.length; i++) {
            each[i] = m.getParameterTypes()[i] == long.class ? (Object) given[i] : (Object) (int) given[i];
        }
        calls.add(call + Arrays.toString(given));
        long due = hand.ask(call, given);
        try {
            long got = ((Number) m.invoke(x, each)).longValue();
            Due.due(got == due ? call : String.join("\n", calls), got, due);
        } catch (InvocationTargetException e) {
            Due.due(String.join("\n", calls) + " threw " + e.getCause(), 1, 0);
        }
        return due;
    }

    private static void act() throws IllegalAccessException {
        switch (any(0, 119)) {
            case 0: case 1: case 2: makePiece(); break;
            case 3: case 4: case 5: case 6: makeTrace(any(0, any(0, 5))); break;
            case 7: case 8: case 9: makeProgram(); break;
            case 10: case 11: runs(); break;
            case 12: case 13: setLimit(); break;
            case 14: tellReadings(); break;
            case 15: cut(); break;
            case 16: case 17: case 18: wild(); break;
            case 19: case 20: case 21: case 22: book(); break;
            default: single(); break;
        }
    }

    private static void row(int sheet, int bits, int... numbers) throws IllegalAccessException {
        ask("sheet", sheet, bits, numbers.length);
        for (int i = 0; i < numbers.length; i++) {
            ask("put", sheet, i, numbers[i]);
        }
    }

    private static int bits() {
        return any(0, 3) > 0 ? 32 : any(0, 1) == 0 ? 16 : 8;
    }

    private static void makePiece() throws IllegalAccessException {
        int[] loads = new int[any(2, any(0, 3) == 0 ? 12 : 5)];
        int steep = any(0, 40);
        for (int i = 0; i < loads.length; i++) {
            loads[i] = any(0, 3) > 0 ? steep * i : any(0, any(0, 9) == 0 ? 10000 : 200);
        }
        int sheet = any(0, 3);
        row(sheet, bits(), loads);
        int size = any(0, 1) == 0 ? 10 : any(0, 1) == 0 ? any(1, 14) : any(1, 99);
        ask("piece", any(0, 5), any(0, 5) == 0 ? any(1, 3) : 0, size, sheet, loads.length);
    }

    private static void makeTrace(int piece) throws IllegalAccessException {
        int[] numbers = new int[2 * any(0, 12)];
        int stretch = any(0, 5);
        int steep = any(0, 9);
        int from = any(0, 60);
        int great = any(0, 5) == 0 ? 20000 : 1;
        for (int i = 0; i < numbers.length; i += 2) {
            numbers[i] = stretch;
            int straight = from + steep * stretch;
            int load = any(0, 2) > 0 ? straight : any(0, 3) == 0 ? any(-2, -1) : any(0, 120);
            numbers[i + 1] = load < 0 ? load : Math.min(load * great, 99999);
            stretch += any(0, 8) * any(0, 1);
        }
        int sheet = any(0, 3);
        row(sheet, any(0, 5) > 0 ? 32 : bits(), numbers);
        ask("trace", any(0, 20) == 0 ? 14 : piece, sheet, numbers.length);
    }

    private static String parts(int n, String between) {
        String[] words = {"go", "load", "hold", "back", "till", "read", "read", "read"};
        StringBuilder text = new StringBuilder();
        for (int i = 0; i < n; i++) {
            String word = words[any(0, 7)];
            text.append(i == 0 ? "" : between).append(any(0, 5) == 0 ? " " : "").append(word);
            if (!word.equals("read")) {
                text.append(any(0, 1) == 0 ? " " : "").append(any(0, any(0, 9) == 0 ? 9999 : 25));
            }
        }
        return text.toString();
    }

    private static void makeProgram() throws IllegalAccessException {
        String text = parts(any(1, 6), ";") + (any(0, 2) == 0 ? ";last " + parts(any(1, 3), ",") : "");
        if (any(0, 3) == 0 && !text.isEmpty()) {
            String odd = "; ,a9z\u0000\u00ff\tL";
            int at = any(0, text.length() - 1);
            String in = any(0, 2) == 0 ? "" : "" + odd.charAt(any(0, odd.length() - 1));
            text = text.substring(0, at) + in + text.substring(at + any(0, 1));
        }
        for (int i = 0; i < text.length(); i += 8) {
            long word = (long) any(Integer.MIN_VALUE, Integer.MAX_VALUE) << 32;
            int n = Math.min(8, text.length() - i);
            for (int k = 0; k < n; k++) {
                word = word & ~(255L << 8 * k) | (long) text.charAt(i + k) << 8 * k;
            }
            ask("feed", word, n);
        }
        ask("program", any(0, any(0, 20) == 0 ? 4 : 3));
    }

    private static void runs() throws IllegalAccessException {
        for (int piece = 0; piece <= any(0, 5); piece++) {
            ask("run", any(0, 3), piece);
        }
        for (int what = 0; what < 4; what++) {
            ask("ran", what);
        }
    }

    private static void setLimit() throws IllegalAccessException {
        int[] least = {0, 0, 0, 0, 0};
        int[] some = {150, 40, 150, 5, 5};
        int[] most = {100000, 1000, 100000, 25, 6};
        int what = any(0, 4);
        ask("limit", what, any(least[what], any(0, 2) == 0 ? most[what] : some[what]));
    }

    /** What a piece has read is told, and then asked of a program and a piece that may have read it. */
    private static void tellReadings() throws IllegalAccessException {
        int piece = any(0, 3);
        int program = any(0, 3);
        ask("run", program, piece);
        for (int i = 0; ask("reading", piece, i, 0) >= 0; i++) {
            ask("tell", ask("reading", piece, i, 0) + (any(0, 40) == 0 ? 1 : 0));
            if (any(0, 40) > 0) {
                ask("tell", ask("reading", piece, i, 1));
            }
        }
        ask("check", program, piece);
    }

    private static void book() throws IllegalAccessException {
        int lot = any(0, 5) == 0 ? 1 : 0;
        int law = any(0, 3);
        ask("enter", lot, law, any(0, 5));
        ask("enter", lot, law, any(0, 5));
        ask("back", any(0, 4), any(0, 9));
    }

    private static void cut() throws IllegalAccessException {
        int length = any(1, any(0, 3) == 0 ? 999 : 40);
        int[] lengths = new int[any(0, 8)];
        for (int i = 0; i < lengths.length; i++) {
            lengths[i] = any(any(0, 30) == 0 ? 0 : 1, length + (any(0, 30) == 0 ? 1 : 0));
        }
        int sheet = any(0, 3);
        row(sheet, bits(), lengths);
        ask("plates", sheet, lengths.length, length);
    }

    private static String anyOf(List<String> names) {
        return names.get(any(0, names.size() - 1));
    }

    private static void single() throws IllegalAccessException {
        String call = anyOf(new ArrayList<>(ASKS.keySet()));
        int[] bounds = ASKS.get(call);
        long[] given = new long[bounds.length / 2];
        for (int i = 0; i < given.length; i++) {
            given[i] = any(bounds[2 * i], bounds[2 * i + 1]);
            // Most houses have few pieces and few entries.
            boolean isNumber = bounds[2 * i] == 0 && (bounds[2 * i + 1] == 13 || bounds[2 * i + 1] == 19);
            given[i] = isNumber && any(0, 7) > 0 ? any(0, any(0, 4)) : given[i];
        }
        ask(call, given);
    }

    private static void wild() throws IllegalAccessException {
        String call = anyOf(new ArrayList<>(FACE.keySet()));
        long[] given = new long[FACE.get(call).getParameterCount()];
        for (int i = 0; i < given.length; i++) {
            given[i] = any(0, 2) > 0 ? any(0, 4) : WILD[any(0, WILD.length - 1)];
        }
        // By hand, ten lengths are cut in too many ways.
        if (!call.equals("plates") || given[1] < 9) {
            ask(call, given);
        }
    }

    private static void lookAtAll() throws IllegalAccessException {
        for (int what = 0; what < 8; what++) {
            ask("count", what);
        }
        for (int meter = 0; meter < 6; meter++) {
            ask("hangs", meter);
            ask("led", meter, 99, 1);
        }
        for (int k = 1; k <= 6; k++) {
            ask("told", k);
        }
        ask("restore");
        ask("count", 7);
        ask("book", 0, 0);
    }
}
