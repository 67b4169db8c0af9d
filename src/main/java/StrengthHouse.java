/** A house where pieces are tried. The document (../shared/DOC.md) says what each call answers. */
public final class StrengthHouse {
    private static final int LOW = -1000000;
    private static final int BEYOND = 1;
    private static final int NONE = 2;
    private static final int STATE = 3;
    private static final int FULL = 4;
    private static final int KIND = 5;
    private static final int PARTED = 6;

    private static final int PIECE_KIND = 0;
    private static final int PULLED = 1;
    private static final int BENT = 2;
    private static final int SLOW = 3;
    private static final int NOTCHED = 5;
    private static final int KINDS = 6;

    private static final int LOTS = 4;
    private static final int LAWS = 4;
    private static final int PIECES = 14;
    private static final int PROGRAMS = 4;
    private static final int SHEETS = 4;
    private static final int ENTRIES = 20;
    private static final int WAITING = 48;
    private static final int TAPE = 64;
    private static final int READINGS = 24;
    private static final int ANSWERS = 12;
    private static final int METERS = 6;
    private static final int RANKS = 12;
    private static final int PLATE_LENGTHS = 10;

    private static final int SIZE_MOST = 99;
    private static final int ANSWER_MOST = 9999;
    private static final int STRETCH_MOST = 999;
    private static final int LOAD_MOST = 99999;
    private static final int NUMBER_MOST = 2000000000;

    private static final int LIMIT = 0;
    private static final int LONG = 1;
    private static final int TOP = 2;
    private static final int NONE_EACH = 3;
    private static final int DELAY = 4;
    private static final int LIMITS = 5;

    private static final int GO = 0;
    private static final int LOAD = 1;
    private static final int HOLD = 2;
    private static final int BACK = 3;
    private static final int READ = 4;
    private static final int TILL = 5;

    private final State now = new State();
    private final State kept = new State();
    private int images = 0;
    private final int[] refused = new int[PARTED + 1];
    private final Sheet[] sheets = new Sheet[SHEETS];
    private final Voices voices = new Voices();
    private final Machine machine = new Machine();
    private final TextReader reader = new TextReader();
    private final Program draft = new Program();
    private final Order order = new Order();
    private final int[] cuts = new int[1 << PLATE_LENGTHS];

    public StrengthHouse() {
        for (int i = 0; i < SHEETS; i++) {
            sheets[i] = new Sheet();
        }
    }

    // ---- pieces

    public int piece(int kind, int lot, int size, int sheet, int n) {
        Sheet row = sheetAt(sheet);
        if (!within(kind, 0, KINDS - 1) || !isLot(lot) || !within(size, 1, SIZE_MOST)
                || row == null || !within(n, 2, ANSWERS)) {
            return refuse(BEYOND);
        }
        if (row.isMissing()) {
            return refuse(NONE);
        }
        if (!row.begins(n, 0, ANSWER_MOST)) {
            return refuse(BEYOND);
        }
        Piece made = now.addPiece();
        if (made == null) {
            return refuse(FULL);
        }
        made.become(kind, lot, size);
        for (int i = 0; i < n; i++) {
            made.addAnswer(row.numberAt(i));
        }
        return now.pieces() - 1;
    }

    public int pieceIs(int piece, int what) {
        Piece asked = now.pieceAt(piece);
        if (asked == null) {
            return refuse(BEYOND);
        }
        switch (what) {
            case 0: return asked.kind;
            case 1: return asked.lot;
            case 2: return asked.size;
            case 3: return asked.answerCount;
            case 4: return asked.readings.size;
            case 5: return asked.readings.goodOnes();
            default: return refuse(BEYOND);
        }
    }

    public int as(int piece, int kind) {
        Piece asked = now.pieceAt(piece);
        if (asked == null || !within(kind, 0, KINDS - 1)) {
            return refuse(BEYOND);
        }
        return asked.isOf(kind) ? asked.size : refuse(KIND);
    }

    public int answer(int piece, int stretch) {
        Piece asked = now.pieceAt(piece);
        if (asked == null || !isStretch(stretch)) {
            return refuse(BEYOND);
        }
        return asked.loadAt(stretch);
    }

    public int trace(int piece, int sheet, int n) {
        Piece traced = now.pieceAt(piece);
        Sheet row = sheetAt(sheet);
        if (traced == null || row == null || !within(n, 0, READINGS)) {
            return refuse(BEYOND);
        }
        if (row.isMissing()) {
            return refuse(NONE);
        }
        if (n % 2 != 0) {
            return refuse(STATE);
        }
        if (!row.beginsWithReadings(n)) {
            return refuse(BEYOND);
        }
        traced.readings.clear();
        for (int i = 0; i < n; i += 2) {
            traced.readings.add(row.numberAt(i), row.numberAt(i + 1));
        }
        return n / 2;
    }

    public int reading(int piece, int i, int what) {
        Piece asked = now.pieceAt(piece);
        if (asked == null || !within(i, 0, asked.readings.size - 1) || !within(what, 0, 1)) {
            return refuse(BEYOND);
        }
        return what == 0 ? asked.readings.stretchAt(i) : asked.readings.loadAt(i);
    }

    // ---- programs, runs

    public int limit(int what, int v) {
        if (!State.isLimit(what, v)) {
            return refuse(BEYOND);
        }
        int was = now.limitAt(what);
        now.setLimit(what, v);
        return was;
    }

    public int feed(long word, int n) {
        if (!within(n, 1, 8)) {
            return refuse(BEYOND);
        }
        if (now.tapeLength > TAPE - n) {
            return refuse(FULL);
        }
        for (int i = 0; i < n; i++) {
            now.addByte((byte) (word >> (8 * i)));
        }
        return now.tapeLength;
    }

    public int program(int program) {
        Program place = now.programAt(program);
        if (place == null) {
            return refuse(BEYOND);
        }
        int fault = reader.faultOf(now.tape, now.tapeLength, draft);
        now.tapeLength = 0;
        if (fault >= 0) {
            return -10 - fault;
        }
        place.copyFrom(draft);
        place.there = true;
        return place.count;
    }

    public int run(int program, int piece) {
        Program driven = now.programAt(program);
        Piece tried = now.pieceAt(piece);
        if (driven == null || tried == null) {
            return refuse(BEYOND);
        }
        if (!driven.there) {
            return refuse(NONE);
        }
        machine.perform(driven, tried, now);
        tried.readings.copyFrom(machine.taken);
        now.keepRun(machine);
        return machine.why;
    }

    public int ran(int what) {
        if (!within(what, 0, State.RAN - 1)) {
            return refuse(BEYOND);
        }
        return now.hasRun ? now.ranAt(what) : refuse(NONE);
    }

    // ---- laws

    public int line(int piece, int what) {
        Piece asked = now.pieceAt(piece);
        if (asked == null || !within(what, 0, 2)) {
            return refuse(BEYOND);
        }
        Readings readings = asked.readings;
        if (!readings.findLine()) {
            return refuse(NONE);
        }
        if (what == 2) {
            return readings.lineCount;
        }
        return what == 0 ? readings.lineFirst : readings.lineSecond;
    }

    public int yields(int piece, int offset) {
        Piece asked = now.pieceAt(piece);
        if (asked == null || !within(offset, 0, 999)) {
            return refuse(BEYOND);
        }
        return orNone(asked.readings.yieldAt(offset));
    }

    public int top(int piece) {
        Piece asked = now.pieceAt(piece);
        if (asked == null) {
            return refuse(BEYOND);
        }
        return orNone(asked.readings.numberBy(0));
    }

    public int breaks(int piece, int fall) {
        Piece asked = now.pieceAt(piece);
        if (asked == null || !within(fall, 0, 100)) {
            return refuse(BEYOND);
        }
        return orNone(asked.readings.breakAt(fall));
    }

    public long spent(int piece, int i) {
        Piece asked = now.pieceAt(piece);
        if (asked == null || !within(i, 0, asked.readings.size - 1)) {
            return refuse(BEYOND);
        }
        return asked.readings.spentUpTo(i);
    }

    public int number(int piece, int law) {
        Piece asked = now.pieceAt(piece);
        if (asked == null || !isLaw(law)) {
            return refuse(BEYOND);
        }
        return orNone(asked.readings.numberBy(law));
    }

    public int curve(int lot, int stretch, int what) {
        if (!isLot(lot) || !isStretch(stretch) || !within(what, 0, 3)) {
            return refuse(BEYOND);
        }
        orderCurves(lot, stretch);
        if (what == 3) {
            return order.size;
        }
        if (order.size == 0) {
            return refuse(NONE);
        }
        int last = order.size - 1;
        return order.valueAt(what * last / 2);
    }

    // ---- lots

    public int odd(int lot, int law, int share) {
        if (!isLot(lot) || !isLaw(law) || !within(share, 0, 100)) {
            return refuse(BEYOND);
        }
        orderNumbers(lot, law);
        return orNone(order.oddPiece(share));
    }

    public int sure(int lot, int law, int p, int t) {
        if (!isLot(lot) || !isLaw(law) || !isTenths(p) || !isTenths(t)) {
            return refuse(BEYOND);
        }
        orderNumbers(lot, law);
        int rank = Order.surePlace(order.size, p, t);
        return rank < 1 ? refuse(NONE) : order.valueAt(rank - 1);
    }

    public int few(int p, int t) {
        if (!isTenths(p) || !isTenths(t)) {
            return refuse(BEYOND);
        }
        for (int n = 1; n <= RANKS; n++) {
            if (Order.surePlace(n, p, t) > 0) {
                return n;
            }
        }
        return refuse(NONE);
    }

    // ---- meters, the book

    public int prove(int meter, int other, int factors, int doubt) {
        int up = factors / 100;
        int down = factors % 100;
        if (!within(meter, 1, METERS - 1) || !isMeter(other) || !within(up, 1, 99)
                || !within(down, 1, 99) || !within(doubt, 0, 99)) {
            return refuse(BEYOND);
        }
        if (other >= meter) {
            return refuse(STATE);
        }
        now.meters.set(meter, other, up, down, doubt);
        return 1;
    }

    public int led(int meter, int v, int what) {
        if (!isMeter(meter) || !within(v, 0, LOAD_MOST) || !within(what, 0, 1)) {
            return refuse(BEYOND);
        }
        return what == 0 ? now.meters.ledToHouse(meter, v) : now.meters.doubtOf(meter);
    }

    public int enter(int lot, int law, int meter) {
        if (!isLot(lot) || !isLaw(law) || !isMeter(meter)) {
            return refuse(BEYOND);
        }
        orderNumbers(lot, law);
        if (order.size == 0) {
            return refuse(NONE);
        }
        if (now.book.size >= ENTRIES) {
            return refuse(FULL);
        }
        return now.book.add(lot, law, meter, order);
    }

    public int entryIs(int entry, int what) {
        Book book = now.book;
        if (!book.has(entry)) {
            return refuse(BEYOND);
        }
        switch (what) {
            case 0: return book.greatest[entry];
            case 1: return book.pieceBits[entry];
            case 2: return book.meters[entry];
            case 3: return orNone(book.takenBackBy[entry]);
            default: return refuse(BEYOND);
        }
    }

    public int back(int entry, int because) {
        if (!now.book.has(entry) || !now.book.has(because)) {
            return refuse(BEYOND);
        }
        if (!now.book.canTakeBack(entry, because)) {
            return refuse(STATE);
        }
        now.book.takeBack(entry, because);
        return 1;
    }

    public int book(int lot, int law) {
        if (!isLot(lot) || !isLaw(law)) {
            return refuse(BEYOND);
        }
        return orNone(now.book.latest(lot, law));
    }

    public int hangs(int meter) {
        if (!isMeter(meter)) {
            return refuse(BEYOND);
        }
        return now.book.hanging(meter, now.meters);
    }

    // ---- plans

    public int plates(int sheet, int n, int length) {
        Sheet row = sheetAt(sheet);
        if (row == null || !within(n, 0, PLATE_LENGTHS) || !within(length, 1, 999)) {
            return refuse(BEYOND);
        }
        if (row.isMissing()) {
            return refuse(NONE);
        }
        if (!row.begins(n, 1, 999)) {
            return refuse(BEYOND);
        }
        if (!row.begins(n, 1, length)) {
            return refuse(STATE);
        }
        return fewestPlates(row, n, length);
    }

    public int drift(int n) {
        if (!within(n, 2, 12)) {
            return refuse(BEYOND);
        }
        int best = 0;
        int least = NUMBER_MOST;
        for (int bits = 0; bits < 1 << n; bits++) {
            if (Integer.bitCount(bits) == n / 2 && sumsApart(bits, n) < least) {
                best = bits;
                least = sumsApart(bits, n);
            }
        }
        return best;
    }

    // ---- voices, sheets, images, what is told

    public int voice(int piece, int act, int x) {
        Piece asked = now.pieceAt(piece);
        if (asked == null || !within(act, 0, Voices.ACTS - 1)) {
            return refuse(BEYOND);
        }
        int said = voices.ask(asked, piece, act, x);
        return voices.parted ? refuse(PARTED) : said;
    }

    public int body(int i) {
        return within(i, 0, voices.count - 1) ? voices.bodyAt(i) : refuse(NONE);
    }

    public int sheet(int sheet, int bits, int n) {
        Sheet row = sheetAt(sheet);
        if (row == null || bits != 0 && bits != 8 && bits != 16 && bits != 32) {
            return refuse(BEYOND);
        }
        if (bits != 0 && n < 0) {
            return refuse(STATE);
        }
        if (bits != 0 && n > Sheet.MOST) {
            return refuse(BEYOND);
        }
        row.become(bits, n);
        return 1;
    }

    public int put(int sheet, int i, int v) {
        Sheet row = sheetAt(sheet);
        if (row == null) {
            return refuse(BEYOND);
        }
        if (row.isMissing()) {
            return refuse(NONE);
        }
        if (!row.spans(i, 1)) {
            return refuse(BEYOND);
        }
        row.set(i, v);
        return 1;
    }

    public int move(int sheet, int i, int other, int j, int n) {
        Sheet from = sheetAt(sheet);
        Sheet to = sheetAt(other);
        if (from == null || to == null) {
            return refuse(BEYOND);
        }
        if (from.isMissing() || to.isMissing()) {
            return refuse(NONE);
        }
        if (from.bits != to.bits) {
            return refuse(KIND);
        }
        if (!from.spans(i, n) || !to.spans(j, n)) {
            return refuse(BEYOND);
        }
        System.arraycopy(from.numbers, i, to.numbers, j, n);
        return n;
    }

    public int image() {
        kept.copyFrom(now);
        images++;
        return images;
    }

    public int restore() {
        if (images == 0) {
            return refuse(NONE);
        }
        now.copyFrom(kept);
        return now.pieces();
    }

    public int tell(int v) {
        return now.addWaiting(v) ? now.waitingCount : refuse(FULL);
    }

    public int check(int program, int piece) {
        int waited = now.waitingCount;
        // None wait any more, whatever is answered.
        now.waitingCount = 0;
        Program driven = now.programAt(program);
        Piece tried = now.pieceAt(piece);
        if (driven == null || tried == null) {
            return refuse(BEYOND);
        }
        if (!driven.there) {
            return refuse(NONE);
        }
        machine.perform(driven, tried, now);
        return firstUnlike(waited, machine.taken);
    }

    public int count(int what) {
        switch (what) {
            case 0: return now.pieces();
            case 1: return now.book.size;
            case 2: return now.book.takenBack();
            case 3: return now.programsThere();
            case 4: return now.tapeLength;
            case 5: return now.waitingCount;
            case 6: return voices.count;
            case 7: return now.readingsOfAll();
            default: return refuse(BEYOND);
        }
    }

    public int told(int k) {
        return within(k, BEYOND, PARTED) ? refused[k] : refuse(BEYOND);
    }

    // ---- what the calls share

    private int refuse(int error) {
        if (within(error, BEYOND, PARTED)) {
            refused[error]++;
        }
        return LOW - error;
    }

    /** Inside the house -1 stands for what isn't there: no answer of its own is below 0. */
    private int orNone(int found) {
        return found < 0 ? refuse(NONE) : found;
    }

    private Sheet sheetAt(int sheet) {
        return within(sheet, 0, SHEETS - 1) ? sheets[sheet] : null;
    }

    private void orderCurves(int lot, int stretch) {
        order.clear();
        for (int i = 0; i < PIECES; i++) {
            Piece p = now.pieceAt(i);
            int load = p == null || p.lot != lot ? -1 : p.readings.curveAt(stretch);
            if (load >= 0) {
                order.insert(load, i);
            }
        }
    }

    private void orderNumbers(int lot, int law) {
        order.clear();
        for (int i = 0; i < PIECES; i++) {
            Piece p = now.pieceAt(i);
            int found = p == null || p.lot != lot ? -1 : p.readings.numberBy(law);
            if (found >= 0) {
                order.insert(found, i);
            }
        }
    }

    /**
     * For each set of lengths the fewest plates and, of these, the least that the latest one has
     * spent (1024 times the plates, and what is spent: so the lesser number is the better one).
     */
    private int fewestPlates(Sheet row, int n, int length) {
        cuts[0] = length;
        for (int set = 1; set < 1 << n && set < cuts.length; set++) {
            int best = NUMBER_MOST;
            for (int i = 0; i < n; i++) {
                if ((set >> i & 1) != 0) {
                    best = Math.min(best, cutOneMore(cuts[set ^ 1 << i], row.numberAt(i), length));
                }
            }
            cuts[set] = best;
        }
        return cuts[(1 << n) - 1] / 1024;
    }

    private static int cutOneMore(int cut, int piece, int length) {
        boolean fits = cut % 1024 + piece <= length;
        return fits ? cut + piece : (cut / 1024 + 1) * 1024 + piece;
    }

    private static int sumsApart(int bits, int n) {
        int sum = 0;
        for (int i = 0; i < n; i++) {
            sum += (bits >> i & 1) != 0 ? i + 1 : -(i + 1);
        }
        return Math.abs(sum);
    }

    private int firstUnlike(int waited, Readings due) {
        int most = Math.max(waited, 2 * due.size);
        for (int i = 0; i < most; i++) {
            if (i >= waited || i >= 2 * due.size || now.waitingAt(i) != due.flatAt(i)) {
                return 1 + i;
            }
        }
        return 0;
    }

    private static boolean within(int v, int least, int most) {
        return v >= least && v <= most;
    }

    private static boolean isLot(int lot) {
        return within(lot, 0, LOTS - 1);
    }

    private static boolean isLaw(int law) {
        return within(law, 0, LAWS - 1);
    }

    private static boolean isMeter(int meter) {
        return within(meter, 0, METERS - 1);
    }

    private static boolean isStretch(int stretch) {
        return within(stretch, 0, STRETCH_MOST);
    }

    private static boolean isTenths(int v) {
        return within(v, 1, 9);
    }

    /** The first number, and how much the other is more, by part of the whole way, cut. */
    private static int straight(int first, int other, int part, int whole) {
        if (whole == 0) {
            return first;
        }
        return first + (int) ((long) (other - first) * part / whole);
    }

    /** All that an image keeps. */
    private static final class State {
        private static final int RAN = 4;

        private final Piece[] pieces = new Piece[PIECES];
        private int pieceCount = 0;
        private final Program[] programs = new Program[PROGRAMS];
        private final int[] limits = {LOAD_MOST, STRETCH_MOST, LOAD_MOST, 0, 0};
        private final byte[] tape = new byte[TAPE];
        private int tapeLength = 0;
        private final int[] latestRun = new int[RAN];
        private boolean hasRun = false;
        private final Meters meters = new Meters();
        private final Book book = new Book();
        private final int[] waiting = new int[WAITING];
        private int waitingCount = 0;

        State() {
            for (int i = 0; i < PIECES; i++) {
                pieces[i] = new Piece();
            }
            for (int i = 0; i < PROGRAMS; i++) {
                programs[i] = new Program();
            }
        }

        int pieces() {
            return pieceCount;
        }

        Piece pieceAt(int i) {
            return i >= 0 && i < pieceCount && i < PIECES ? pieces[i] : null;
        }

        Piece addPiece() {
            if (pieceCount < 0 || pieceCount >= PIECES) {
                return null;
            }
            pieceCount++;
            return pieces[pieceCount - 1];
        }

        Program programAt(int i) {
            return i >= 0 && i < PROGRAMS ? programs[i] : null;
        }

        int programsThere() {
            int there = 0;
            for (int i = 0; i < PROGRAMS; i++) {
                there += programs[i].there ? 1 : 0;
            }
            return there;
        }

        int readingsOfAll() {
            int all = 0;
            for (int i = 0; i < pieceCount && i < PIECES; i++) {
                all += pieces[i].readings.size;
            }
            return all;
        }

        static boolean isLimit(int what, int v) {
            switch (what) {
                case LIMIT:
                case TOP: return within(v, 0, LOAD_MOST);
                case LONG: return within(v, 0, STRETCH_MOST);
                case NONE_EACH: return within(v, 0, READINGS);
                case DELAY: return within(v, 0, Machine.DELAY_MOST);
                default: return false;
            }
        }

        int limitAt(int what) {
            return what >= 0 && what < LIMITS ? limits[what] : 0;
        }

        void setLimit(int what, int v) {
            if (what >= 0 && what < LIMITS) {
                limits[what] = v;
            }
        }

        void addByte(byte b) {
            if (tapeLength >= 0 && tapeLength < TAPE) {
                tape[tapeLength] = b;
                tapeLength++;
            }
        }

        void keepRun(Machine machine) {
            hasRun = true;
            latestRun[0] = machine.why;
            latestRun[1] = machine.ticks;
            latestRun[2] = machine.stretch;
            latestRun[3] = machine.endedAt;
        }

        int ranAt(int what) {
            return what >= 0 && what < RAN ? latestRun[what] : 0;
        }

        boolean addWaiting(int v) {
            if (waitingCount < 0 || waitingCount >= WAITING) {
                return false;
            }
            waiting[waitingCount] = v;
            waitingCount++;
            return true;
        }

        int waitingAt(int i) {
            return i >= 0 && i < WAITING ? waiting[i] : 0;
        }

        void copyFrom(State other) {
            pieceCount = other.pieceCount;
            for (int i = 0; i < PIECES; i++) {
                pieces[i].copyFrom(other.pieces[i]);
            }
            for (int i = 0; i < PROGRAMS; i++) {
                programs[i].copyFrom(other.programs[i]);
            }
            System.arraycopy(other.limits, 0, limits, 0, LIMITS);
            System.arraycopy(other.tape, 0, tape, 0, TAPE);
            tapeLength = other.tapeLength;
            System.arraycopy(other.latestRun, 0, latestRun, 0, RAN);
            hasRun = other.hasRun;
            meters.copyFrom(other.meters);
            book.copyFrom(other.book);
            System.arraycopy(other.waiting, 0, waiting, 0, WAITING);
            waitingCount = other.waitingCount;
        }
    }

    /** A piece with what it answers and what was read of it. */
    private static final class Piece {
        /** For each kind the one that it is under; the first one is under none. */
        private static final int[] ABOVE = {-1, 0, 0, 1, 0, 2};

        private int kind = 0;
        private int lot = 0;
        private int size = 1;
        private final int[] answers = new int[ANSWERS];
        private int answerCount = 0;
        private final Readings readings = new Readings();

        void become(int newKind, int newLot, int newSize) {
            kind = newKind;
            lot = newLot;
            size = newSize;
            answerCount = 0;
            readings.clear();
        }

        void addAnswer(int load) {
            if (answerCount >= 0 && answerCount < ANSWERS) {
                answers[answerCount] = load;
                answerCount++;
            }
        }

        static int above(int kind) {
            return kind >= 0 && kind < ABOVE.length ? ABOVE[kind] : -1;
        }

        boolean isOf(int asked) {
            int k = kind;
            for (int i = 0; i < KINDS && k >= 0; i++) {
                if (k == asked) {
                    return true;
                }
                k = above(k);
            }
            return false;
        }

        int lastStretch() {
            return 10 * (answerCount - 1);
        }

        int loadAt(int stretch) {
            if (stretch < 0 || stretch > lastStretch()) {
                return 0;
            }
            int load = answerAt(stretch) * size / 10;
            if (isOf(BENT)) {
                load /= 2;
            }
            return kind == NOTCHED ? Math.max(0, load - 5) : load;
        }

        private int answerAt(int stretch) {
            int i = stretch / 10;
            if (i < 0 || i >= answerCount || i >= ANSWERS) {
                return 0;
            }
            boolean isLast = i + 1 >= answerCount || i + 1 >= ANSWERS;
            return isLast ? answers[i] : straight(answers[i], answers[i + 1], stretch % 10, 10);
        }

        void copyFrom(Piece other) {
            kind = other.kind;
            lot = other.lot;
            size = other.size;
            System.arraycopy(other.answers, 0, answers, 0, ANSWERS);
            answerCount = other.answerCount;
            readings.copyFrom(other.readings);
        }
    }

    /** What was read of one piece, and the laws over it. */
    private static final class Readings {
        private static final int TOLD_FULL = -2;
        private static final int TOLD_NONE = -1;

        private final int[] stretches = new int[READINGS];
        private final int[] loads = new int[READINGS];
        private int size = 0;
        private int lineFirst = 0;
        private int lineSecond = 0;
        private int lineCount = 0;

        void clear() {
            size = 0;
        }

        void add(int stretch, int load) {
            if (size >= 0 && size < READINGS) {
                stretches[size] = stretch;
                loads[size] = load;
                size++;
            }
        }

        int stretchAt(int i) {
            return i >= 0 && i < size && i < READINGS ? stretches[i] : 0;
        }

        int loadAt(int i) {
            return i >= 0 && i < size && i < READINGS ? loads[i] : TOLD_NONE;
        }

        /** The readings as one row: each stretch, and its load behind it. */
        int flatAt(int i) {
            return i % 2 == 0 ? stretchAt(i / 2) : loadAt(i / 2);
        }

        boolean isGood(int i) {
            return loadAt(i) >= 0;
        }

        int goodOnes() {
            int good = 0;
            for (int i = 0; i < size; i++) {
                good += isGood(i) ? 1 : 0;
            }
            return good;
        }

        boolean findLine() {
            lineCount = 0;
            for (int i = 0; i < size; i++) {
                for (int j = i + 1; j < size; j++) {
                    tryLine(i, j);
                }
            }
            return lineCount > 0;
        }

        private void tryLine(int i, int j) {
            if (!isGood(i) || !isGood(j) || stretchAt(i) == stretchAt(j)) {
                return;
            }
            int lying = 0;
            for (int k = 0; k < size; k++) {
                lying += isGood(k) && belowLine(i, j, k, 0) == 0 ? 1 : 0;
            }
            if (lying > lineCount) {
                lineFirst = i;
                lineSecond = j;
                lineCount = lying;
            }
        }

        /**
         * Whether reading k lies below (above 0), on (0) or above (below 0) the line through i and j
         * less the offset; by products alone, so that nothing is cut.
         */
        private long belowLine(int i, int j, int k, int offset) {
            long run = stretchAt(j) - stretchAt(i);
            long rise = loadAt(j) - loadAt(i);
            long way = stretchAt(k) - stretchAt(i);
            long below = rise * way - (loadAt(k) - loadAt(i) + offset) * run;
            return run < 0 ? -below : below;
        }

        int yieldAt(int offset) {
            if (!findLine()) {
                return -1;
            }
            for (int k = lineSecond; k < size; k++) {
                if (isGood(k) && belowLine(lineFirst, lineSecond, k, offset) > 0) {
                    return k;
                }
            }
            return -1;
        }

        private int topAt() {
            int best = -1;
            for (int i = 0; i < size; i++) {
                if (isGood(i) && (best < 0 || loadAt(i) > loadAt(best))) {
                    best = i;
                }
            }
            return best;
        }

        int breakAt(int fall) {
            int best = topAt();
            if (best < 0) {
                return -1;
            }
            for (int i = best + 1; i < size; i++) {
                if (isGood(i) && loadAt(i) * 100L < loadAt(best) * (100L - fall)) {
                    return i;
                }
            }
            return -1;
        }

        long spentUpTo(int last) {
            long all = 0;
            int ahead = -1;
            for (int i = 0; i <= last && i < size; i++) {
                if (isGood(i)) {
                    all += ahead < 0 ? 0 : spentBetween(ahead, i);
                    ahead = i;
                }
            }
            return all;
        }

        private long spentBetween(int i, int j) {
            long more = Math.max(0, stretchAt(j) - stretchAt(i));
            return more * (loadAt(i) + loadAt(j));
        }

        /** The number by a law, or -1 without one. */
        int numberBy(int law) {
            int best = topAt();
            if (best < 0) {
                return -1;
            }
            switch (law) {
                case 0: return loadAt(best);
                case 1: return stretchOr(yieldAt(2));
                case 2: return stretchOr(breakAt(20));
                case 3: return (int) Math.min(NUMBER_MOST, spentUpTo(size - 1));
                default: return -1;
            }
        }

        private int stretchOr(int i) {
            return i < 0 ? -1 : stretchAt(i);
        }

        /** The load on the curve at a stretch, or -1 if no two good readings are around it. */
        int curveAt(int stretch) {
            int ahead = -1;
            for (int i = 0; i < size; i++) {
                if (!isGood(i)) {
                    continue;
                }
                if (ahead >= 0 && stretchAt(ahead) <= stretch && stretchAt(i) >= stretch) {
                    return straight(loadAt(ahead), loadAt(i),
                            stretch - stretchAt(ahead), stretchAt(i) - stretchAt(ahead));
                }
                ahead = i;
            }
            return -1;
        }

        void copyFrom(Readings other) {
            System.arraycopy(other.stretches, 0, stretches, 0, READINGS);
            System.arraycopy(other.loads, 0, loads, 0, READINGS);
            size = other.size;
        }
    }

    /** Parts, the last ones behind the others. */
    private static final class Program {
        private static final int PARTS = 32;

        private boolean there = false;
        private final int[] acts = new int[PARTS];
        private final int[] amounts = new int[PARTS];
        private int firsts = 0;
        private int count = 0;

        void clear() {
            firsts = 0;
            count = 0;
        }

        void add(int act, int amount, boolean isLast) {
            if (count >= 0 && count < PARTS) {
                acts[count] = act;
                amounts[count] = amount;
                count++;
                firsts += isLast ? 0 : 1;
            }
        }

        int actAt(int i) {
            return i >= 0 && i < PARTS ? acts[i] : READ;
        }

        int amountAt(int i) {
            return i >= 0 && i < PARTS ? amounts[i] : 0;
        }

        void copyFrom(Program other) {
            there = other.there;
            System.arraycopy(other.acts, 0, acts, 0, PARTS);
            System.arraycopy(other.amounts, 0, amounts, 0, PARTS);
            firsts = other.firsts;
            count = other.count;
        }
    }

    /** Reads a text, word by word: a mark is a word, a number or another byte. */
    private static final class TextReader {
        private static final int NUMBER_DIGITS = 4;

        private byte[] text = new byte[0];
        private int length = 0;
        private int from = 0;
        private int to = 0;

        /** The place where no text goes on, or -1; what was read is in the draft. */
        int faultOf(byte[] bytes, int howMany, Program draft) {
            text = bytes;
            length = Math.max(0, Math.min(howMany, bytes.length));
            to = 0;
            draft.clear();
            next();
            boolean last = false;
            for (int parts = 0; parts < Program.PARTS; parts++) {
                if (parts > 0 && !last && isMark("last")) {
                    last = true;
                    next();
                }
                if (!readPart(draft, last)) {
                    return from;
                }
                if (from >= length) {
                    return -1;
                }
                if (!isMark(last ? "," : ";")) {
                    return from;
                }
                next();
            }
            return from;
        }

        private boolean readPart(Program draft, boolean last) {
            int act = actHere();
            if (act < 0) {
                return false;
            }
            next();
            if (act == READ) {
                draft.add(act, 0, last);
                return true;
            }
            int amount = numberHere();
            if (amount < 0) {
                return false;
            }
            next();
            draft.add(act, amount, last);
            return true;
        }

        private int actHere() {
            for (int act = GO; act <= TILL; act++) {
                if (isMark(wordOf(act))) {
                    return act;
                }
            }
            return -1;
        }

        private static String wordOf(int act) {
            switch (act) {
                case GO: return "go";
                case LOAD: return "load";
                case HOLD: return "hold";
                case BACK: return "back";
                case READ: return "read";
                default: return "till";
            }
        }

        private int numberHere() {
            if (to <= from || to - from > NUMBER_DIGITS) {
                return -1;
            }
            int v = 0;
            for (int i = from; i < to; i++) {
                if (!isDigit(i)) {
                    return -1;
                }
                v = 10 * v + byteAt(i) - '0';
            }
            return v;
        }

        private boolean isMark(String word) {
            if (to - from != word.length()) {
                return false;
            }
            for (int i = 0; i < word.length(); i++) {
                if (byteAt(from + i) != word.charAt(i)) {
                    return false;
                }
            }
            return true;
        }

        private void next() {
            from = to;
            while (from < length && byteAt(from) == ' ') {
                from++;
            }
            to = Math.min(from + 1, length);
            if (isLetter(from)) {
                while (to < length && isLetter(to)) {
                    to++;
                }
            } else if (isDigit(from)) {
                while (to < length && isDigit(to)) {
                    to++;
                }
            }
        }

        private int byteAt(int i) {
            return i >= 0 && i < length && i < text.length ? text[i] : -1;
        }

        private boolean isLetter(int i) {
            return within(byteAt(i), 'a', 'z');
        }

        private boolean isDigit(int i) {
            return within(byteAt(i), '0', '9');
        }
    }

    /** Drives a program on a piece; the piece itself isn't changed. */
    private static final class Machine {
        private static final int DELAY_MOST = 5;
        private static final int TIMES_MOST = 300;
        private static final int OVER_LOAD = 1;
        private static final int OVER_LONG = 2;
        private static final int BROKEN = 3;

        private final int[] loads = new int[DELAY_MOST + 1];
        private final Readings taken = new Readings();
        private Piece piece = new Piece();
        private int loadLimit = 0;
        private int longLimit = 0;
        private int meterTop = 0;
        private int noneEach = 0;
        private int delay = 0;
        private int stretch = 0;
        private int holds = 0;
        private int ticks = 0;
        private int why = 0;
        private int endedAt = 0;
        private boolean broken = false;
        private boolean inLast = false;

        void perform(Program program, Piece tried, State state) {
            begin(tried, state);
            int part = 0;
            while (part < program.firsts && why == 0) {
                doPart(program.actAt(part), program.amountAt(part));
                part++;
            }
            endedAt = why == 0 ? part : part - 1;
            inLast = true;
            for (int i = program.firsts; i < program.count; i++) {
                doPart(program.actAt(i), program.amountAt(i));
            }
        }

        private void begin(Piece tried, State state) {
            piece = tried;
            taken.clear();
            loadLimit = state.limitAt(LIMIT);
            longLimit = state.limitAt(LONG);
            meterTop = state.limitAt(TOP);
            noneEach = state.limitAt(NONE_EACH);
            delay = state.limitAt(DELAY);
            stretch = 0;
            holds = 0;
            ticks = 0;
            why = 0;
            endedAt = 0;
            broken = false;
            inLast = false;
        }

        private void doPart(int act, int amount) {
            int most = timesAtMost(act, amount);
            for (int i = 0; i < most && (inLast || why == 0) && isWanted(act, amount); i++) {
                doOnce(act);
            }
        }

        private static int timesAtMost(int act, int amount) {
            switch (act) {
                case READ: return 1;
                case LOAD:
                case TILL: return TIMES_MOST;
                default: return amount;
            }
        }

        private boolean isWanted(int act, int amount) {
            switch (act) {
                case LOAD: return load() < amount;
                case TILL: return stretch < amount;
                default: return true;
            }
        }

        private void doOnce(int act) {
            stretch = Math.max(0, stretch + moreStretch(act));
            broken = broken || stretch > piece.lastStretch();
            ticks++;
            int load = load();
            loads[Math.floorMod(ticks, loads.length)] = load;
            if (act == READ) {
                take();
            }
            if (!inLast) {
                askLimits(load);
            }
        }

        private int moreStretch(int act) {
            switch (act) {
                case GO:
                case LOAD:
                case TILL: return 1;
                case BACK: return -1;
                case HOLD: return creeps() ? 1 : 0;
                default: return 0;
            }
        }

        private boolean creeps() {
            holds++;
            return piece.isOf(SLOW) && holds % 5 == 0;
        }

        private int load() {
            return broken ? 0 : piece.loadAt(stretch);
        }

        private void take() {
            if (taken.size >= READINGS) {
                return;
            }
            int place = taken.size + 1;
            int seen = delay < ticks ? loads[Math.floorMod(ticks - delay, loads.length)] : 0;
            if (noneEach > 0 && place % noneEach == 0) {
                seen = Readings.TOLD_NONE;
            } else if (seen > meterTop) {
                seen = Readings.TOLD_FULL;
            }
            taken.add(stretch, seen);
        }

        private void askLimits(int load) {
            if (broken) {
                why = BROKEN;
            } else if (load > loadLimit) {
                why = OVER_LOAD;
            } else if (stretch > longLimit) {
                why = OVER_LONG;
            }
        }
    }

    /** Numbers by order, the least first, each with the piece that it is of. */
    private static final class Order {
        private final int[] values = new int[PIECES];
        private final int[] pieces = new int[PIECES];
        private int size = 0;

        void clear() {
            size = 0;
        }

        void insert(int value, int piece) {
            if (size < 0 || size >= PIECES) {
                return;
            }
            int at = size;
            while (at > 0 && values[at - 1] > value) {
                values[at] = values[at - 1];
                pieces[at] = pieces[at - 1];
                at--;
            }
            values[at] = value;
            pieces[at] = piece;
            size++;
        }

        int valueAt(int i) {
            return i >= 0 && i < size && i < PIECES ? values[i] : 0;
        }

        int pieceBits() {
            int bits = 0;
            for (int i = 0; i < size && i < PIECES; i++) {
                bits |= 1 << pieces[i];
            }
            return bits;
        }

        /** The odd piece, or -1. Of like numbers none is apart from the next, so none is odd. */
        int oddPiece(int share) {
            if (size < 3 || size > PIECES) {
                return -1;
            }
            int last = size - 1;
            if (isApart(0, 1, share)) {
                return pieces[0];
            }
            return isApart(last - 1, last, share) ? pieces[last] : -1;
        }

        private boolean isApart(int i, int j, int share) {
            long gap = (long) valueAt(j) - valueAt(i);
            long whole = (long) valueAt(size - 1) - valueAt(0);
            return gap * 100 > whole * share;
        }

        /**
         * The greatest r for which fewer than r of n are below what p tenths pass with a chance of
         * no more than 10 - t tenths (0: none). Chances are counted in parts of 10 to the n.
         */
        static int surePlace(int n, int p, int t) {
            if (n < 1 || n > RANKS) {
                return 0;
            }
            long most = (10 - t) * power(10, n);
            long ways = 1;
            long fewer = 0;
            for (int k = 0; k < n; k++) {
                fewer += ways * power(10 - p, k) * power(p, n - k);
                if (fewer * 10 > most) {
                    return k;
                }
                ways = ways * (n - k) / (k + 1);
            }
            return n;
        }

        private static long power(int base, int exponent) {
            long v = 1;
            for (int i = 0; i < exponent; i++) {
                v *= base;
            }
            return v;
        }
    }

    /** The chain along which meters are proved. */
    private static final class Meters {
        private final int[] others = new int[METERS];
        private final int[] ups = {1, 1, 1, 1, 1, 1};
        private final int[] downs = {1, 1, 1, 1, 1, 1};
        private final int[] doubts = new int[METERS];

        void set(int meter, int other, int up, int down, int doubt) {
            if (isMeter(meter)) {
                others[meter] = other;
                ups[meter] = up;
                downs[meter] = down;
                doubts[meter] = doubt;
            }
        }

        private int otherOf(int meter) {
            return isMeter(meter) ? others[meter] : 0;
        }

        int ledToHouse(int meter, int v) {
            long led = v;
            int m = meter;
            for (int i = 0; i < METERS && m > 0; i++) {
                led = ledOnce(m, led);
                m = otherOf(m);
            }
            return (int) led;
        }

        private long ledOnce(int meter, long v) {
            if (!isMeter(meter) || downs[meter] < 1) {
                return v;
            }
            return Math.min(NUMBER_MOST, v * ups[meter] / downs[meter]);
        }

        int doubtOf(int meter) {
            long all = 0;
            int m = meter;
            for (int i = 0; i < METERS && m > 0; i++) {
                all += isMeter(m) ? ledToHouse(m, doubts[m]) : 0;
                m = otherOf(m);
            }
            return (int) Math.min(NUMBER_MOST, all);
        }

        boolean goesOver(int meter, int asked) {
            int m = meter;
            for (int i = 0; i < METERS && m > 0; i++) {
                if (m == asked) {
                    return true;
                }
                m = otherOf(m);
            }
            return m == asked;
        }

        void copyFrom(Meters other) {
            System.arraycopy(other.others, 0, others, 0, METERS);
            System.arraycopy(other.ups, 0, ups, 0, METERS);
            System.arraycopy(other.downs, 0, downs, 0, METERS);
            System.arraycopy(other.doubts, 0, doubts, 0, METERS);
        }
    }

    /** The entries, with what took them back. */
    private static final class Book {
        private final int[] lots = new int[ENTRIES];
        private final int[] laws = new int[ENTRIES];
        private final int[] meters = new int[ENTRIES];
        private final int[] greatest = new int[ENTRIES];
        private final int[] pieceBits = new int[ENTRIES];
        private final int[] takenBackBy = new int[ENTRIES];
        private int size = 0;

        boolean has(int entry) {
            return entry >= 0 && entry < size && entry < ENTRIES;
        }

        int add(int lot, int law, int meter, Order numbers) {
            int entry = size;
            if (entry < 0 || entry >= ENTRIES) {
                return -1;
            }
            lots[entry] = lot;
            laws[entry] = law;
            meters[entry] = meter;
            greatest[entry] = numbers.valueAt(numbers.size - 1);
            pieceBits[entry] = numbers.pieceBits();
            takenBackBy[entry] = -1;
            size++;
            return entry;
        }

        boolean canTakeBack(int entry, int because) {
            return has(entry) && has(because) && because > entry && takenBackBy[entry] < 0
                    && lots[entry] == lots[because] && laws[entry] == laws[because];
        }

        void takeBack(int entry, int because) {
            if (has(entry)) {
                takenBackBy[entry] = because;
            }
        }

        int takenBack() {
            int all = 0;
            for (int i = 0; i < size && i < ENTRIES; i++) {
                all += takenBackBy[i] >= 0 ? 1 : 0;
            }
            return all;
        }

        int latest(int lot, int law) {
            int found = -1;
            for (int i = 0; i < size && i < ENTRIES; i++) {
                if (lots[i] == lot && laws[i] == law && takenBackBy[i] < 0) {
                    found = i;
                }
            }
            return found;
        }

        int hanging(int meter, Meters chain) {
            int bits = 0;
            for (int i = 0; i < size && i < ENTRIES; i++) {
                bits |= chain.goesOver(meters[i], meter) ? 1 << i : 0;
            }
            return bits;
        }

        void copyFrom(Book other) {
            System.arraycopy(other.lots, 0, lots, 0, ENTRIES);
            System.arraycopy(other.laws, 0, laws, 0, ENTRIES);
            System.arraycopy(other.meters, 0, meters, 0, ENTRIES);
            System.arraycopy(other.greatest, 0, greatest, 0, ENTRIES);
            System.arraycopy(other.pieceBits, 0, pieceBits, 0, ENTRIES);
            System.arraycopy(other.takenBackBy, 0, takenBackBy, 0, ENTRIES);
            size = other.size;
        }
    }

    /** A row of numbers of so many bits, or none (0 bits). */
    private static final class Sheet {
        private static final int MOST = 24;

        private int bits = 0;
        private int length = 0;
        private final int[] numbers = new int[MOST];

        void become(int newBits, int n) {
            bits = newBits;
            length = newBits == 0 ? 0 : Math.max(0, Math.min(n, MOST));
            for (int i = 0; i < MOST; i++) {
                numbers[i] = 0;
            }
        }

        boolean isMissing() {
            return bits == 0;
        }

        /** Whether n numbers stand there from number i on (told so that no sum can wrap). */
        boolean spans(int i, int n) {
            return i >= 0 && n >= 0 && n <= length && i <= length - n;
        }

        int numberAt(int i) {
            return i >= 0 && i < length && i < MOST ? numbers[i] : 0;
        }

        void set(int i, int v) {
            if (i >= 0 && i < length && i < MOST) {
                numbers[i] = bits == 8 ? (byte) v : bits == 16 ? (short) v : v;
            }
        }

        boolean begins(int n, int least, int most) {
            if (!spans(0, n)) {
                return false;
            }
            for (int i = 0; i < n; i++) {
                if (!within(numberAt(i), least, most)) {
                    return false;
                }
            }
            return true;
        }

        boolean beginsWithReadings(int n) {
            if (!spans(0, n)) {
                return false;
            }
            int ahead = 0;
            for (int i = 0; i < n; i += 2) {
                if (!within(numberAt(i), ahead, STRETCH_MOST)
                        || !within(numberAt(i + 1), Readings.TOLD_FULL, LOAD_MOST)) {
                    return false;
                }
                ahead = numberAt(i);
            }
            return true;
        }
    }

    /** The bodies that say what a piece says, and which of them did. */
    private static final class Voices {
        private static final int ACTS = 4;
        private static final int RUNS = 0;
        private static final int READS = 1;
        private static final int JUDGES = 2;
        private static final int TELLS = 3;
        private static final int TRACED = 30;
        private static final int DEPTH = 40;
        /** For each kind the bodies of its acts; 0 where it has none of its own. */
        private static final int[] BODIES = {
            10, 11, 12, 13,
            0, 20, 21, 0,
            30, 0, 0, 31,
            40, 0, 41, 0,
            0, 0, 50, 0,
            0, 60, 0, 61};

        private final int[] begun = new int[TRACED];
        private int begunCount = 0;
        private final int[] trace = new int[TRACED];
        private int count = 0;
        private int kind = 0;
        private int size = 0;
        private int number = 0;
        private boolean parted = false;

        int ask(Piece piece, int itsNumber, int act, int x) {
            kind = piece.kind;
            size = piece.size;
            number = itsNumber;
            parted = false;
            begunCount = 0;
            int said = say(kind, act, x, 0);
            // One that parted answers an ERROR, which leaves the trace as it was.
            if (!parted) {
                System.arraycopy(begun, 0, trace, 0, TRACED);
                count = begunCount;
            }
            return said;
        }

        int bodyAt(int i) {
            return i >= 0 && i < count && i < TRACED ? trace[i] : 0;
        }

        /** What the body for the act says that this kind has, or the next one above. */
        private int say(int from, int act, int x, int depth) {
            int at = from;
            for (int i = 0; i < KINDS && bodyOf(at, act) == 0; i++) {
                at = Piece.above(at);
            }
            int body = bodyOf(at, act);
            if (body == 0 || depth > DEPTH) {
                return 0;
            }
            if (begunCount >= 0 && begunCount < TRACED) {
                begun[begunCount] = body;
                begunCount++;
            }
            return workOut(body, x, depth + 1);
        }

        private static int bodyOf(int kind, int act) {
            int i = kind * ACTS + act;
            return kind >= 0 && i >= 0 && i < BODIES.length ? BODIES[i] : 0;
        }

        private int workOut(int body, int x, int depth) {
            switch (body) {
                case 10: return x + size;
                case 11: return say(kind, RUNS, x, depth) * 2;
                case 12: return say(kind, READS, x, depth) - number;
                case 13: return shareOut(x);
                case 20: return say(PIECE_KIND, READS, x, depth) + 3;
                case 21: return say(PIECE_KIND, JUDGES, x, depth) ^ size;
                case 30: return say(PIECE_KIND, RUNS, x, depth) / 2;
                case 31: return say(PIECE_KIND, TELLS, x, depth) + say(kind, JUDGES, 1, depth);
                case 40: return 0 - say(PULLED, RUNS, x, depth);
                case 41: return say(PULLED, JUDGES, x, depth) + say(kind, RUNS, 2, depth);
                case 50: return say(PIECE_KIND, JUDGES, x, depth) * 3;
                case 60: return say(BENT, READS, x - 1, depth);
                case 61: return say(kind, READS, x, depth) - say(BENT, TELLS, x, depth);
                default: return 0;
            }
        }

        private int shareOut(int x) {
            int by = size - number;
            if (by == 0) {
                parted = true;
                return 0;
            }
            return x / by;
        }
    }
}
