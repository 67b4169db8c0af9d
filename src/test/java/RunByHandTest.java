import java.util.ArrayList;
import java.util.List;

/** Any RUNS (promises 11, 12, 40), against a machine that writes down each TICK and looks back in its list. */
public final class RunByHandTest {
    private static long seed = 11;

    private static int kind;
    private static int size;
    private static int[] answers;
    private static final int[] LIMITS = new int[5];

    private static List<Integer> loads;
    private static List<Integer> readings;
    private static int stretch;
    private static int holds;
    private static boolean broke;
    private static int why;

    public static void main(String[] args) {
        for (int round = 0; round < 4000; round++) {
            anyRun();
        }
        Due.finish();
    }

    private static int any(int least, int most) {
        seed = seed * 6364136223846793005L + 1442695040888963407L;
        return least + (int) ((seed >>> 33) % (most - least + 1));
    }

    private static void anyRun() {
        StrengthHouse x = new StrengthHouse();
        kind = any(0, 5);
        size = any(0, 3) == 0 ? any(1, 99) : 10;
        answers = new int[any(2, 5)];
        for (int i = 0; i < answers.length; i++) {
            answers[i] = any(0, 60);
        }
        Due.piece(x, kind, 0, size, answers);
        int[] often = {99999, 999, 99999, 0, 0};
        int[] least = {0, 0, 0, 0, 0};
        int[] most = {60, 45, 60, 5, 5};
        for (int what = 0; what < 5; what++) {
            LIMITS[what] = any(0, 1) == 0 ? often[what] : any(least[what], most[what]);
            x.limit(what, LIMITS[what]);
        }
        List<String> parts = parts(any(1, 6));
        List<String> last = parts(any(0, 3));
        String text = String.join(";", parts) + (last.isEmpty() ? "" : ";last " + String.join(",", last));
        if (text.length() > 64) {
            return;
        }
        Due.due(text, Due.program(x, 0, text), parts.size() + last.size());
        byHand(x, text, parts, last);
    }

    private static List<String> parts(int n) {
        String[] words = {"go ", "load ", "hold ", "back ", "till ", "read", "read"};
        List<String> parts = new ArrayList<>();
        for (int i = 0; i < n; i++) {
            String word = words[any(0, 6)];
            parts.add(word.equals("read") ? word : word + any(0, 25));
        }
        return parts;
    }

    private static void byHand(StrengthHouse x, String text, List<String> parts, List<String> last) {
        loads = new ArrayList<>();
        readings = new ArrayList<>();
        stretch = 0;
        holds = 0;
        broke = false;
        why = 0;
        int ended = 0;
        for (int i = 0; i < parts.size() && why == 0; i++) {
            part(parts.get(i), true);
            ended = why == 0 ? i + 1 : i;
        }
        for (String one : last) {
            part(one, false);
        }
        for (int v : readings) {
            x.tell(v);
        }
        Due.due(text + ": check", x.check(0, 0), 0);
        Due.due(text + ": no readings yet", x.pieceIs(0, 4), 0);
        Due.due(text, x.run(0, 0), why);
        Due.due(text + ": ticks", x.ran(1), loads.size());
        Due.due(text + ": stretch", x.ran(2), stretch);
        Due.due(text + ": part", x.ran(3), ended);
        Due.due(text + ": readings", 2 * x.pieceIs(0, 4), readings.size());
        for (int i = 0; i < readings.size(); i++) {
            Due.due(text + ": reading " + i, x.reading(0, i / 2, i % 2), readings.get(i));
        }
    }

    private static void part(String part, boolean asks) {
        int n = part.equals("read") ? 0 : Integer.parseInt(part.substring(5 - (part.startsWith("go") ? 2 : 0)).trim());
        int times = 0;
        while (!(asks && why != 0)) {
            boolean goes;
            switch (part.charAt(0)) {
                case 'l': goes = load() < n && times < 300; break;
                case 't': goes = stretch < n && times < 300; break;
                case 'r': goes = times < 1; break;
                default: goes = times < n; break;
            }
            if (!goes) {
                return;
            }
            times++;
            tick(part.charAt(0));
            if (asks) {
                why = broke ? 3 : load() > LIMITS[0] ? 1 : stretch > LIMITS[1] ? 2 : 0;
            }
        }
    }

    private static void tick(char act) {
        if (act == 'h') {
            holds++;
        }
        boolean creeps = act == 'h' && kind == 3 && holds % 5 == 0;
        if (act == 'g' || act == 'l' || act == 't' || creeps) {
            stretch++;
        } else if (act == 'b' && stretch > 0) {
            stretch--;
        }
        broke |= stretch > 10 * (answers.length - 1);
        loads.add(load());
        if (act == 'r') {
            int at = loads.size() - 1 - LIMITS[4];
            int seen = at < 0 ? 0 : loads.get(at);
            int n = readings.size() / 2 + 1;
            seen = LIMITS[3] > 0 && n % LIMITS[3] == 0 ? -1 : seen > LIMITS[2] ? -2 : seen;
            readings.add(stretch);
            readings.add(seen);
        }
    }

    private static int load() {
        if (broke || stretch > 10 * (answers.length - 1)) {
            return 0;
        }
        int k = stretch / 10;
        int r = stretch % 10;
        int told = r == 0 ? answers[k] : answers[k] + (answers[k + 1] - answers[k]) * r / 10;
        int load = told * size / 10;
        load = kind == 2 || kind == 5 ? load / 2 : load;
        return kind == 5 ? Math.max(load - 5, 0) : load;
    }
}
