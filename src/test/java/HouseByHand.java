import java.math.BigInteger;
import java.util.ArrayList;
import java.util.Arrays;
import java.util.Collections;
import java.util.List;
import java.util.Map;
import java.util.TreeMap;
import java.util.TreeSet;
import java.util.regex.Matcher;
import java.util.regex.Pattern;

/**
 * The document once more, in the plainest way: lists that are never changed, whole fractions, each way
 * of cutting plates, each way in which trials come out. Slow, and of no code that the class has.
 */
final class HouseByHand {
    static final int BEYOND = 1;
    static final int NONE = 2;
    static final int STATE = 3;
    static final int FULL = 4;
    static final int KIND = 5;
    static final int PARTED = 6;

    /** An act that answers an ERROR leaves by this, ahead of any change. */
    private static final class Refused extends RuntimeException {
        private static final long serialVersionUID = 1L;
        private final int k;

        Refused(int k) {
            this.k = k;
        }
    }

    private record Reading(int stretch, int load) {
        boolean isGood() {
            return load >= 0;
        }
    }

    private record Piece(int kind, int lot, int size, List<Integer> answers, List<Reading> readings) {
        Piece with(List<Reading> others) {
            return new Piece(kind, lot, size, answers, List.copyOf(others));
        }
    }

    private record Part(String word, int n) {
    }

    private record Program(List<Part> parts, List<Part> last) {
    }

    private record Meter(int other, int up, int down, int doubt) {
    }

    private record Entry(int lot, int law, int meter, int greatest, int pieces, int because) {
    }

    private record Row(int bits, List<Integer> numbers) {
    }

    private record Ran(int why, int ticks, int stretch, int part, List<Reading> readings) {
    }

    /** What an image has. */
    private static final class All implements Cloneable {
        private List<Piece> pieces = List.of();
        private Map<Integer, Program> programs = Map.of();
        private List<Integer> limits = List.of(99999, 999, 99999, 0, 0);
        private String tape = "";
        private Ran ran = null;
        private List<Meter> meters = Collections.nCopies(6, new Meter(0, 1, 1, 0));
        private List<Entry> entries = List.of();
        private List<Integer> waiting = List.of();

        @Override
        protected All clone() {
            try {
                return (All) super.clone();
            } catch (CloneNotSupportedException e) {
                throw new IllegalStateException(e);
            }
        }
    }

    private All all = new All();
    private All image = null;
    private int images = 0;
    private Map<Integer, Row> sheets = Map.of();
    private List<Integer> bodies = List.of();
    private final int[] told = new int[7];

    long ask(String call, long... a) {
        try {
            return answer(call, a);
        } catch (Refused r) {
            told[r.k]++;
            return -1000000 - r.k;
        }
    }

    private long answer(String call, long[] a) {
        int[] i = Arrays.stream(a).mapToInt(v -> (int) v).toArray();
        switch (call) {
            case "piece": return piece(i[0], i[1], i[2], i[3], i[4]);
            case "pieceIs": return pieceIs(i[0], i[1]);
            case "as": return as(i[0], i[1]);
            case "answer": return loadAt(pieceOr(i[0]), in(i[1], 0, 999));
            case "trace": return trace(i[0], i[1], i[2]);
            case "reading": return reading(i[0], i[1], i[2]);
            case "limit": return limit(i[0], i[1]);
            case "feed": return feed(a[0], i[1]);
            case "program": return program(i[0]);
            case "run": return run(i[0], i[1]);
            case "ran": return ran(i[0]);
            case "line": return line(i[0], i[1]);
            case "yields": return orNone(yields(pieceOr(i[0]), in(i[1], 0, 999)));
            case "top": return orNone(number(pieceOr(i[0]), 0));
            case "breaks": return orNone(breaks(pieceOr(i[0]), in(i[1], 0, 100)));
            case "spent": return spent(pieceOr(i[0]), in(i[1], 0, pieceOr(i[0]).readings.size() - 1));
            case "number": return orNone(number(pieceOr(i[0]), in(i[1], 0, 3)));
            case "curve": return curve(in(i[0], 0, 3), in(i[1], 0, 999), in(i[2], 0, 3));
            case "odd": return odd(in(i[0], 0, 3), in(i[1], 0, 3), in(i[2], 0, 100));
            case "sure": return sure(in(i[0], 0, 3), in(i[1], 0, 3), in(i[2], 1, 9), in(i[3], 1, 9));
            case "few": return few(in(i[0], 1, 9), in(i[1], 1, 9));
            case "prove": return prove(i[0], i[1], i[2], i[3]);
            case "led": return led(in(i[0], 0, 5), in(i[1], 0, 99999), in(i[2], 0, 1));
            case "enter": return enter(in(i[0], 0, 3), in(i[1], 0, 3), in(i[2], 0, 5));
            case "entryIs": return entryIs(entryOr(i[0]), in(i[1], 0, 3));
            case "back": return back(i[0], i[1]);
            case "book": return book(in(i[0], 0, 3), in(i[1], 0, 3));
            case "hangs": return hangs(in(i[0], 0, 5));
            case "plates": return plates(i[0], i[1], i[2]);
            case "drift": return drift(in(i[0], 2, 12));
            case "voice": return voice(i[0], i[1], i[2]);
            case "body": return i[0] >= 0 && i[0] < bodies.size() ? bodies.get(i[0]) : refused(NONE);
            case "sheet": return sheet(i[0], i[1], i[2]);
            case "put": return put(i[0], i[1], i[2]);
            case "move": return move(i[0], i[1], i[2], i[3], i[4]);
            case "image": return image();
            case "restore": return restore();
            case "tell": return tell(i[0]);
            case "check": return check(i[0], i[1]);
            case "count": return count(i[0]);
            case "told": return told[in(i[0], 1, 6)];
            default: throw new IllegalStateException(call);
        }
    }

    private static int refused(int k) {
        throw new Refused(k);
    }

    private static int in(int v, int least, int most) {
        return v < least || v > most ? refused(BEYOND) : v;
    }

    /** Null stands for NONE. */
    private static int orNone(Integer found) {
        return found == null ? refused(NONE) : found;
    }

    private static <T> List<T> with(List<T> list, T one) {
        List<T> more = new ArrayList<>(list);
        more.add(one);
        return List.copyOf(more);
    }

    private static <T> List<T> with(List<T> list, int at, T one) {
        List<T> more = new ArrayList<>(list);
        more.set(at, one);
        return List.copyOf(more);
    }

    private static <T> Map<Integer, T> with(Map<Integer, T> map, int at, T one) {
        Map<Integer, T> more = new TreeMap<>(map);
        if (one == null) {
            more.remove(at);
        } else {
            more.put(at, one);
        }
        return Map.copyOf(more);
    }

    // ---- 1: pieces

    private Piece pieceOr(int piece) {
        return all.pieces.get(in(piece, 0, all.pieces.size() - 1));
    }

    private Row rowOr(int sheet) {
        Row row = sheets.get(in(sheet, 0, 3));
        if (row == null) {
            refused(NONE);
        }
        return row;
    }

    private int piece(int kind, int lot, int size, int sheet, int n) {
        in(kind, 0, 5);
        in(lot, 0, 3);
        in(size, 1, 99);
        in(sheet, 0, 3);
        in(n, 2, 12);
        List<Integer> numbers = rowOr(sheet).numbers;
        if (numbers.size() < n || numbers.subList(0, n).stream().anyMatch(v -> v < 0 || v > 9999)) {
            refused(BEYOND);
        }
        if (all.pieces.size() == 14) {
            refused(FULL);
        }
        all.pieces = with(all.pieces, new Piece(kind, lot, size, List.copyOf(numbers.subList(0, n)), List.of()));
        return all.pieces.size() - 1;
    }

    private int pieceIs(int piece, int what) {
        Piece p = pieceOr(piece);
        int[] told = {p.kind, p.lot, p.size, p.answers.size(), p.readings.size(), good(p).size()};
        return told[in(what, 0, 5)];
    }

    private int as(int piece, int kind) {
        Piece p = pieceOr(piece);
        in(kind, 0, 5);
        Class<?> asked = VoiceByHand.of(kind, 1, 0).getClass();
        return asked.isInstance(VoiceByHand.of(p.kind, 1, 0)) ? p.size : refused(KIND);
    }

    private static int loadAt(Piece p, int stretch) {
        if (stretch > 10 * (p.answers.size() - 1)) {
            return 0;
        }
        int told = p.answers.get(stretch / 10);
        if (stretch % 10 > 0) {
            told += (p.answers.get(stretch / 10 + 1) - told) * (stretch % 10) / 10;
        }
        int load = told * p.size / 10;
        switch (p.kind) {
            case 2: return load / 2;
            case 5: return load / 2 < 5 ? 0 : load / 2 - 5;
            default: return load;
        }
    }

    private int trace(int piece, int sheet, int n) {
        Piece p = pieceOr(piece);
        in(sheet, 0, 3);
        in(n, 0, 24);
        List<Integer> numbers = rowOr(sheet).numbers;
        if (n % 2 == 1) {
            refused(STATE);
        }
        in(n, 0, numbers.size());
        List<Reading> readings = new ArrayList<>();
        for (int i = 0; i < n; i += 2) {
            int least = i == 0 ? 0 : numbers.get(i - 2);
            readings.add(new Reading(in(numbers.get(i), least, 999), in(numbers.get(i + 1), -2, 99999)));
        }
        all.pieces = with(all.pieces, piece, p.with(readings));
        return readings.size();
    }

    private int reading(int piece, int i, int what) {
        Piece p = pieceOr(piece);
        Reading r = p.readings.get(in(i, 0, p.readings.size() - 1));
        return in(what, 0, 1) == 0 ? r.stretch : r.load;
    }

    // ---- 2: programs, runs

    private int limit(int what, int v) {
        int[] most = {99999, 999, 99999, 24, 5};
        in(v, 0, most[in(what, 0, 4)]);
        int was = all.limits.get(what);
        all.limits = with(all.limits, what, v);
        return was;
    }

    private int feed(long word, int n) {
        in(n, 1, 8);
        if (all.tape.length() + n > 64) {
            refused(FULL);
        }
        for (int i = 0; i < n; i++) {
            all.tape += (char) (word >>> 8 * i & 255);
        }
        return all.tape.length();
    }

    private int program(int program) {
        in(program, 0, 3);
        String text = all.tape;
        all.tape = "";
        List<Part> parts = new ArrayList<>();
        List<Part> last = new ArrayList<>();
        // What may come next: a part, "last" or a part, a number, what parts two.
        String next = "part";
        List<Part> into = parts;
        String word = "";
        Matcher m = Pattern.compile("[a-z]+|[0-9]+|[^ ]", Pattern.DOTALL).matcher(text);
        while (m.find()) {
            String mark = m.group();
            boolean isAct = List.of("go", "load", "hold", "back", "read", "till").contains(mark);
            if (next.equals("last or part") && mark.equals("last")) {
                into = last;
                next = "part";
            } else if (next.endsWith("part") && isAct) {
                word = mark;
                next = mark.equals("read") ? "between" : "number";
                if (mark.equals("read")) {
                    into.add(new Part(mark, 0));
                }
            } else if (next.equals("number") && mark.matches("[0-9]{1,4}")) {
                into.add(new Part(word, Integer.parseInt(mark)));
                next = "between";
            } else if (next.equals("between") && mark.equals(into == last ? "," : ";")) {
                next = into == last ? "part" : "last or part";
            } else {
                return -10 - m.start();
            }
        }
        if (!next.equals("between")) {
            return -10 - text.length();
        }
        all.programs = with(all.programs, program, new Program(List.copyOf(parts), List.copyOf(last)));
        return parts.size() + last.size();
    }

    private int run(int program, int piece) {
        Ran ran = tryRun(program, piece);
        all.ran = ran;
        all.pieces = with(all.pieces, piece, all.pieces.get(piece).with(ran.readings));
        return ran.why;
    }

    private Ran tryRun(int program, int piece) {
        in(program, 0, 3);
        Piece p = pieceOr(piece);
        Program driven = all.programs.get(program);
        if (driven == null) {
            refused(NONE);
        }
        return new RunByHand(p).all(driven);
    }

    private int ran(int what) {
        in(what, 0, 3);
        if (all.ran == null) {
            refused(NONE);
        }
        return new int[] {all.ran.why, all.ran.ticks, all.ran.stretch, all.ran.part}[what];
    }

    private final class RunByHand {
        private final Piece p;
        private final List<Integer> loadsBehindTicks = new ArrayList<>();
        private final List<Reading> readings = new ArrayList<>();
        private int stretch = 0;
        private int holds = 0;
        private boolean broken = false;
        private int why = 0;

        RunByHand(Piece p) {
            this.p = p;
        }

        Ran all(Program driven) {
            int part = 0;
            while (part < driven.parts.size()) {
                part(driven.parts.get(part), true);
                if (why != 0) {
                    break;
                }
                part++;
            }
            driven.last.forEach(one -> part(one, false));
            return new Ran(why, loadsBehindTicks.size(), stretch, part, readings);
        }

        private int load() {
            return broken ? 0 : loadAt(p, stretch);
        }

        private void part(Part part, boolean asks) {
            int most = part.word.equals("read") ? 1 : List.of("load", "till").contains(part.word) ? 300 : part.n;
            for (int times = 0; times < most; times++) {
                if (part.word.equals("load") && load() >= part.n || part.word.equals("till") && stretch >= part.n) {
                    return;
                }
                tick(part.word);
                if (asks) {
                    why = broken ? 3 : load() > HouseByHand.this.all.limits.get(0) ? 1
                        : stretch > HouseByHand.this.all.limits.get(1) ? 2 : 0;
                }
                if (why != 0 && asks) {
                    return;
                }
            }
        }

        private void tick(String word) {
            switch (word) {
                case "go": case "load": case "till": stretch++; break;
                case "back": stretch -= stretch > 0 ? 1 : 0; break;
                case "hold": holds++; stretch += p.kind == 3 && holds % 5 == 0 ? 1 : 0; break;
                default: break;
            }
            broken |= stretch > 10 * (p.answers.size() - 1);
            loadsBehindTicks.add(load());
            if (word.equals("read") && readings.size() < 24) {
                readings.add(new Reading(stretch, seen(readings.size() + 1)));
            }
        }

        private int seen(int which) {
            List<Integer> limits = HouseByHand.this.all.limits;
            if (limits.get(3) > 0 && which % limits.get(3) == 0) {
                return -1;
            }
            int tick = loadsBehindTicks.size() - limits.get(4);
            int load = tick < 1 ? 0 : loadsBehindTicks.get(tick - 1);
            return load > limits.get(2) ? -2 : load;
        }
    }

    // ---- 3: laws

    /** The places of GOOD READINGS. */
    private static List<Integer> good(Piece p) {
        List<Integer> places = new ArrayList<>();
        for (int i = 0; i < p.readings.size(); i++) {
            if (p.readings.get(i).isGood()) {
                places.add(i);
            }
        }
        return places;
    }

    private record Fraction(BigInteger over, BigInteger under) implements Comparable<Fraction> {
        static Fraction of(long over, long under) {
            long sign = under < 0 ? -1 : 1;
            return new Fraction(BigInteger.valueOf(sign * over), BigInteger.valueOf(sign * under));
        }

        Fraction plus(long v) {
            return new Fraction(over.add(under.multiply(BigInteger.valueOf(v))), under);
        }

        @Override
        public int compareTo(Fraction other) {
            return over.multiply(other.under).compareTo(other.over.multiply(under));
        }
    }

    /** What the line through two readings has at a stretch. */
    private static Fraction onLine(Reading a, Reading b, int stretch) {
        long rise = (long) (b.load - a.load) * (stretch - a.stretch);
        return Fraction.of(rise, b.stretch - a.stretch).plus(a.load);
    }

    /** First, second, how many; null: none. */
    private static List<Integer> lineOf(Piece p) {
        List<List<Integer>> lines = new ArrayList<>();
        for (int i : good(p)) {
            for (int j : good(p)) {
                Reading a = p.readings.get(i);
                Reading b = p.readings.get(j);
                if (i < j && a.stretch != b.stretch) {
                    int lie = (int) good(p).stream().map(k -> p.readings.get(k))
                        .filter(r -> onLine(a, b, r.stretch).compareTo(Fraction.of(r.load, 1)) == 0).count();
                    lines.add(List.of(i, j, lie));
                }
            }
        }
        int most = lines.stream().mapToInt(one -> one.get(2)).max().orElse(0);
        return lines.stream().filter(one -> one.get(2) == most).findFirst().orElse(null);
    }

    private int line(int piece, int what) {
        Piece p = pieceOr(piece);
        in(what, 0, 2);
        List<Integer> line = lineOf(p);
        return orNone(line == null ? null : line.get(what));
    }

    private static Integer yields(Piece p, int offset) {
        List<Integer> line = lineOf(p);
        if (line == null) {
            return null;
        }
        Reading a = p.readings.get(line.get(0));
        Reading b = p.readings.get(line.get(1));
        for (int k : good(p)) {
            Reading r = p.readings.get(k);
            Fraction least = onLine(a, b, r.stretch).plus(-offset);
            if (k >= line.get(1) && Fraction.of(r.load, 1).compareTo(least) < 0) {
                return k;
            }
        }
        return null;
    }

    private static Integer breaks(Piece p, int fall) {
        List<Integer> good = good(p);
        int top = good.stream().mapToInt(k -> p.readings.get(k).load).max().orElse(-1);
        boolean isBehind = false;
        for (int k : good) {
            int load = p.readings.get(k).load;
            if (isBehind && Fraction.of(load, 1).compareTo(Fraction.of((long) top * (100 - fall), 100)) < 0) {
                return k;
            }
            isBehind |= load == top;
        }
        return null;
    }

    private static long spent(Piece p, int upTo) {
        List<Reading> good = new ArrayList<>();
        for (int i = 0; i <= upTo; i++) {
            if (p.readings.get(i).isGood()) {
                good.add(p.readings.get(i));
            }
        }
        long spent = 0;
        for (int i = 1; i < good.size(); i++) {
            long more = good.get(i).stretch - good.get(i - 1).stretch;
            spent += more <= 0 ? 0 : more * (good.get(i).load + good.get(i - 1).load);
        }
        return spent;
    }

    private static Integer number(Piece p, int law) {
        if (good(p).isEmpty()) {
            return null;
        }
        Integer at = law == 1 ? yields(p, 2) : law == 2 ? breaks(p, 20) : null;
        switch (law) {
            case 0: return good(p).stream().mapToInt(k -> p.readings.get(k).load).max().orElse(-1);
            case 3: return (int) Math.min(2000000000L, spent(p, p.readings.size() - 1));
            default: return at == null ? null : p.readings.get(at).stretch;
        }
    }

    private static Integer onCurve(Piece p, int stretch) {
        List<Reading> good = new ArrayList<>(p.readings);
        good.removeIf(r -> !r.isGood());
        for (int i = 1; i < good.size(); i++) {
            Reading a = good.get(i - 1);
            Reading b = good.get(i);
            if (a.stretch <= stretch && b.stretch >= stretch) {
                long whole = b.stretch - a.stretch;
                long more = whole == 0 ? 0 : (long) (b.load - a.load) * (stretch - a.stretch) / whole;
                return (int) (a.load + more);
            }
        }
        return null;
    }

    private int curve(int lot, int stretch, int what) {
        List<Integer> loads = new ArrayList<>();
        for (Piece p : all.pieces) {
            if (p.lot == lot && onCurve(p, stretch) != null) {
                loads.add(onCurve(p, stretch));
            }
        }
        if (what == 3) {
            return loads.size();
        }
        if (loads.isEmpty()) {
            refused(NONE);
        }
        Collections.sort(loads);
        int n = loads.size();
        return loads.get(what == 0 ? 0 : what == 2 ? n - 1 : n % 2 == 1 ? n / 2 : n / 2 - 1);
    }

    // ---- 4: lots, meters, the book, plans

    /** The pieces of a lot that have a number, each with it. */
    private Map<Integer, Integer> numbers(int lot, int law) {
        Map<Integer, Integer> numbers = new TreeMap<>();
        for (int i = 0; i < all.pieces.size(); i++) {
            Piece p = all.pieces.get(i);
            if (p.lot == lot && number(p, law) != null) {
                numbers.put(i, number(p, law));
            }
        }
        return numbers;
    }

    private int odd(int lot, int law, int share) {
        Map<Integer, Integer> numbers = numbers(lot, law);
        List<Integer> order = new ArrayList<>(numbers.values());
        Collections.sort(order);
        int n = order.size();
        if (n < 3) {
            refused(NONE);
        }
        long whole = order.get(n - 1) - order.get(0);
        int odd = -1;
        if ((order.get(1) - order.get(0)) * 100L > share * whole) {
            odd = order.get(0);
        } else if ((order.get(n - 1) - order.get(n - 2)) * 100L > share * whole) {
            odd = order.get(n - 1);
        }
        for (Map.Entry<Integer, Integer> one : numbers.entrySet()) {
            if (one.getValue() == odd) {
                return one.getKey();
            }
        }
        return refused(NONE);
    }

    /** Each way in which n trials come out: a bit for one that is below. */
    private static int rank(int n, int p, int t) {
        long[] chance = new long[n + 1];
        for (int bits = 0; bits < 1 << n; bits++) {
            long ways = 1;
            for (int i = 0; i < n; i++) {
                ways *= (bits >> i & 1) == 1 ? 10 - p : p;
            }
            chance[Integer.bitCount(bits)] += ways;
        }
        long whole = 1;
        for (int i = 0; i < n; i++) {
            whole *= 10;
        }
        int greatest = 0;
        for (int r = 1; r <= n; r++) {
            long fewer = 0;
            for (int k = 0; k < r; k++) {
                fewer += chance[k];
            }
            greatest = fewer * 10 <= whole * (10 - t) ? r : greatest;
        }
        return greatest;
    }

    private int sure(int lot, int law, int p, int t) {
        List<Integer> order = new ArrayList<>(numbers(lot, law).values());
        Collections.sort(order);
        int rank = order.size() > 12 ? 0 : rank(order.size(), p, t);
        return rank == 0 ? refused(NONE) : order.get(rank - 1);
    }

    private int few(int p, int t) {
        for (int n = 1; n <= 12; n++) {
            if (rank(n, p, t) > 0) {
                return n;
            }
        }
        return refused(NONE);
    }

    private int prove(int meter, int other, int factors, int doubt) {
        in(meter, 1, 5);
        in(other, 0, 5);
        Meter proved = new Meter(other, in(factors / 100, 1, 99), in(factors % 100, 1, 99), in(doubt, 0, 99));
        if (other >= meter) {
            refused(STATE);
        }
        all.meters = with(all.meters, meter, proved);
        return 1;
    }

    /** The meters from one to the house's own, which is left out. */
    private List<Integer> way(int meter) {
        List<Integer> way = new ArrayList<>();
        for (int m = meter; m != 0; m = all.meters.get(m).other) {
            way.add(m);
        }
        return way;
    }

    private long ledHome(int meter, long v) {
        for (int m : way(meter)) {
            v = Math.min(2000000000L, v * all.meters.get(m).up / all.meters.get(m).down);
        }
        return v;
    }

    private long led(int meter, int v, int what) {
        if (what == 0) {
            return ledHome(meter, v);
        }
        long doubt = way(meter).stream().mapToLong(m -> ledHome(m, all.meters.get(m).doubt)).sum();
        return Math.min(2000000000L, doubt);
    }

    private int enter(int lot, int law, int meter) {
        Map<Integer, Integer> numbers = numbers(lot, law);
        if (numbers.isEmpty()) {
            refused(NONE);
        }
        if (all.entries.size() == 20) {
            refused(FULL);
        }
        int bits = numbers.keySet().stream().mapToInt(i -> 1 << i).sum();
        all.entries = with(all.entries, new Entry(lot, law, meter, Collections.max(numbers.values()), bits, -1));
        return all.entries.size() - 1;
    }

    private Entry entryOr(int entry) {
        return all.entries.get(in(entry, 0, all.entries.size() - 1));
    }

    private int entryIs(Entry e, int what) {
        switch (what) {
            case 0: return e.greatest;
            case 1: return e.pieces;
            case 2: return e.meter;
            default: return e.because < 0 ? refused(NONE) : e.because;
        }
    }

    private int back(int entry, int because) {
        Entry e = entryOr(entry);
        Entry later = entryOr(because);
        if (because <= entry || later.lot != e.lot || later.law != e.law || e.because >= 0) {
            refused(STATE);
        }
        all.entries = with(all.entries, entry, new Entry(e.lot, e.law, e.meter, e.greatest, e.pieces, because));
        return 1;
    }

    private int book(int lot, int law) {
        for (int i = all.entries.size() - 1; i >= 0; i--) {
            Entry e = all.entries.get(i);
            if (e.lot == lot && e.law == law && e.because < 0) {
                return i;
            }
        }
        return refused(NONE);
    }

    private int hangs(int meter) {
        int bits = 0;
        for (int i = 0; i < all.entries.size(); i++) {
            boolean isOver = meter == 0 || way(all.entries.get(i).meter).contains(meter);
            bits += isOver ? 1 << i : 0;
        }
        return bits;
    }

    private int plates(int sheet, int n, int length) {
        in(sheet, 0, 3);
        in(n, 0, 10);
        in(length, 1, 999);
        List<Integer> numbers = rowOr(sheet).numbers;
        in(n, 0, numbers.size());
        numbers.subList(0, n).forEach(v -> in(v, 1, 999));
        if (numbers.subList(0, n).stream().anyMatch(v -> v > length)) {
            refused(STATE);
        }
        return fewest(numbers.subList(0, n), new ArrayList<>(), length);
    }

    /** Each length is cut from each plate begun that has so much left, or from a new one. */
    private static int fewest(List<Integer> lengths, List<Integer> left, int length) {
        if (lengths.isEmpty()) {
            return left.size();
        }
        int v = lengths.get(0);
        List<Integer> rest = lengths.subList(1, lengths.size());
        int fewest = fewest(rest, with(left, length - v), length);
        for (int i = 0; i < left.size(); i++) {
            if (left.get(i) >= v) {
                fewest = Math.min(fewest, fewest(rest, with(left, i, left.get(i) - v), length));
            }
        }
        return fewest;
    }

    private static int drift(int n) {
        TreeMap<Integer, TreeSet<Integer>> bitsByDifference = new TreeMap<>();
        for (int bits = 0; bits < 1 << n; bits++) {
            int[] sums = new int[2];
            for (int place = 1; place <= n; place++) {
                sums[bits >> place - 1 & 1] += place;
            }
            if (Integer.bitCount(bits) == n / 2) {
                bitsByDifference.computeIfAbsent(Math.abs(sums[0] - sums[1]), k -> new TreeSet<>()).add(bits);
            }
        }
        return bitsByDifference.firstEntry().getValue().first();
    }

    // ---- 5, 6: voices, sheets, images, what is told

    private int voice(int piece, int act, int x) {
        Piece p = pieceOr(piece);
        in(act, 0, 3);
        VoiceByHand voice = VoiceByHand.of(p.kind, p.size, piece);
        int said;
        try {
            said = act == 0 ? voice.runs(x) : act == 1 ? voice.reads(x) : act == 2 ? voice.judges(x) : voice.tells(x);
        } catch (IllegalStateException parted) {
            return refused(PARTED);
        }
        bodies = List.copyOf(voice.begun.subList(0, Math.min(30, voice.begun.size())));
        return said;
    }

    private int sheet(int sheet, int bits, int n) {
        in(sheet, 0, 3);
        if (!List.of(0, 8, 16, 32).contains(bits)) {
            refused(BEYOND);
        }
        if (bits == 0) {
            sheets = with(sheets, sheet, null);
            return 1;
        }
        if (n < 0) {
            refused(STATE);
        }
        sheets = with(sheets, sheet, new Row(bits, Collections.nCopies(in(n, 0, 24), 0)));
        return 1;
    }

    private int put(int sheet, int i, int v) {
        Row row = rowOr(sheet);
        in(i, 0, row.numbers.size() - 1);
        int kept = v << 32 - row.bits >> 32 - row.bits;
        sheets = with(sheets, sheet, new Row(row.bits, with(row.numbers, i, kept)));
        return 1;
    }

    private int move(int sheet, int i, int other, int j, int n) {
        in(sheet, 0, 3);
        in(other, 0, 3);
        Row from = rowOr(sheet);
        Row to = rowOr(other);
        if (from.bits != to.bits) {
            refused(KIND);
        }
        boolean stand = n >= 0 && i >= 0 && j >= 0 && (long) i + n <= from.numbers.size()
            && (long) j + n <= to.numbers.size();
        if (!stand) {
            refused(BEYOND);
        }
        List<Integer> moved = to.numbers;
        for (int k = 0; k < n; k++) {
            moved = with(moved, j + k, from.numbers.get(i + k));
        }
        sheets = with(sheets, other, new Row(to.bits, moved));
        return n;
    }

    private int image() {
        image = all.clone();
        return ++images;
    }

    private int restore() {
        if (image == null) {
            refused(NONE);
        }
        all = image.clone();
        return all.pieces.size();
    }

    private int tell(int v) {
        if (all.waiting.size() == 48) {
            refused(FULL);
        }
        all.waiting = with(all.waiting, v);
        return all.waiting.size();
    }

    private int check(int program, int piece) {
        List<Integer> told = all.waiting;
        all.waiting = List.of();
        List<Integer> due = new ArrayList<>();
        tryRun(program, piece).readings.forEach(r -> due.addAll(List.of(r.stretch, r.load)));
        int i = 0;
        while (i < told.size() && i < due.size() && told.get(i).equals(due.get(i))) {
            i++;
        }
        return i == told.size() && i == due.size() ? 0 : 1 + i;
    }

    private int count(int what) {
        switch (what) {
            case 0: return all.pieces.size();
            case 1: return all.entries.size();
            case 2: return (int) all.entries.stream().filter(e -> e.because >= 0).count();
            case 3: return all.programs.size();
            case 4: return all.tape.length();
            case 5: return all.waiting.size();
            case 6: return bodies.size();
            case 7: return all.pieces.stream().mapToInt(p -> p.readings.size()).sum();
            default: return refused(BEYOND);
        }
    }
}
