/**
 * Each call that the document refuses, just outside each of its edges, and with two faults at once
 * (the ERROR that is asked first is told): it answers its ERROR, told() counts it, and nothing else
 * has changed.
 */
public final class RefusedTest {
    private static final int BEYOND = 1;
    private static final int NONE = 2;
    private static final int STATE = 3;
    private static final int FULL = 4;
    private static final int KIND = 5;
    private static final int PARTED = 6;

    private static final int[] NOT_0_TO_1 = {-1, 2, Integer.MIN_VALUE, Integer.MAX_VALUE};
    private static final int[] NOT_0_TO_3 = {-1, 4, Integer.MIN_VALUE, Integer.MAX_VALUE};
    private static final int[] NOT_0_TO_5 = {-1, 6, Integer.MIN_VALUE, Integer.MAX_VALUE};
    private static final int[] NOT_1_TO_9 = {0, 10, -1, Integer.MIN_VALUE, Integer.MAX_VALUE};
    private static final int[] NOT_0_TO_99 = {-1, 100, Integer.MIN_VALUE, Integer.MAX_VALUE};
    private static final int[] NOT_0_TO_100 = {-1, 101, Integer.MIN_VALUE, Integer.MAX_VALUE};
    private static final int[] NOT_0_TO_999 = {-1, 1000, Integer.MIN_VALUE, Integer.MAX_VALUE};
    private static final int[] NOT_OF_3_PIECES = {-1, 3, 14, Integer.MIN_VALUE, Integer.MAX_VALUE};

    public static void main(String[] args) {
        piece();
        pieceFull();
        askingPieces();
        trace();
        limit();
        feed();
        program();
        run();
        laws();
        lots();
        prove();
        meters();
        entries();
        back();
        plates();
        drift();
        voice();
        sheets();
        move();
        images();
        waiting();
        counts();
        Due.finish();
    }

    private static void no(String what, Twins.Call call, int k) {
        Twins.refused(what, Twins::house, call, k);
    }

    private static void piece() {
        for (int v : NOT_0_TO_5) {
            no("piece, KIND " + v, x -> x.piece(v, 0, 1, 0, 2), BEYOND);
        }
        for (int v : NOT_0_TO_3) {
            no("piece, LOT " + v, x -> x.piece(0, v, 1, 0, 2), BEYOND);
            no("piece, SHEET " + v, x -> x.piece(0, 0, 1, v, 2), BEYOND);
        }
        for (int v : new int[] {0, 100, -1, Integer.MIN_VALUE, Integer.MAX_VALUE}) {
            no("piece, SIZE " + v, x -> x.piece(0, 0, v, 0, 2), BEYOND);
        }
        for (int v : new int[] {1, 13, 0, -1, Integer.MIN_VALUE, Integer.MAX_VALUE}) {
            no("piece, n " + v, x -> x.piece(0, 0, 1, 0, v), BEYOND);
            no("piece, n " + v + " ahead of a missing sheet", x -> x.piece(0, 0, 1, 2, v), BEYOND);
        }
        no("piece, a missing sheet", x -> x.piece(0, 0, 1, 2, 2), NONE);
        no("piece, a missing sheet that can't have so many", x -> x.piece(0, 0, 1, 2, 12), NONE);
        no("piece, KIND ahead of a missing sheet", x -> x.piece(6, 0, 1, 2, 2), BEYOND);
        no("piece, LOT ahead of a missing sheet", x -> x.piece(0, 4, 1, 2, 2), BEYOND);
        no("piece, SIZE ahead of a missing sheet", x -> x.piece(0, 0, 0, 2, 2), BEYOND);
        no("piece, one more than the sheet has", x -> x.piece(0, 0, 1, 0, 4), BEYOND);
        no("piece, a load of 99999", x -> x.piece(0, 0, 1, 3, 2), BEYOND);
        no("piece, a load of 10000", x -> x.piece(0, 0, 1, 3, 3), BEYOND);
        no("piece, a load of -1", x -> x.piece(0, 0, 1, 3, 4), BEYOND);
        Twins.refused("piece, of no house", RefusedTest::nothing, x -> x.piece(0, 0, 1, 0, 2), NONE);
    }

    private static void nothing(StrengthHouse x) {
        Due.due("a new house", x.count(0), 0);
    }

    /** A house with so many pieces. */
    private static void pieces(StrengthHouse x, int howMany) {
        Twins.house(x);
        for (int i = 3; i < howMany; i++) {
            Due.due("piece", x.piece(i % 6, i % 4, i, 0, 3), i);
        }
    }

    private static void pieceFull() {
        Twins.Setup full = x -> pieces(x, 14);
        Twins.refused("a fifteenth piece", full, x -> x.piece(0, 0, 1, 0, 2), FULL);
        Twins.refused("a missing sheet ahead of FULL", full, x -> x.piece(0, 0, 1, 2, 2), NONE);
        Twins.refused("too many numbers ahead of FULL", full, x -> x.piece(0, 0, 1, 0, 4), BEYOND);
        Twins.refused("no load ahead of FULL", full, x -> x.piece(0, 0, 1, 3, 3), BEYOND);
        Twins.refused("KIND ahead of FULL", full, x -> x.piece(6, 0, 1, 0, 2), BEYOND);
    }

    private static void askingPieces() {
        for (int v : NOT_OF_3_PIECES) {
            no("pieceIs, PIECE " + v, x -> x.pieceIs(v, 0), BEYOND);
            no("as, PIECE " + v, x -> x.as(v, 0), BEYOND);
            no("answer, PIECE " + v, x -> x.answer(v, 0), BEYOND);
            no("reading, PIECE " + v, x -> x.reading(v, 0, 0), BEYOND);
        }
        for (int v : NOT_0_TO_5) {
            no("pieceIs " + v, x -> x.pieceIs(0, v), BEYOND);
            no("as " + v, x -> x.as(0, v), BEYOND);
        }
        no("as one under it", x -> x.as(0, 3), KIND);
        no("as one beside it", x -> x.as(1, 2), KIND);
        no("as, PIECE ahead of KIND", x -> x.as(3, 3), BEYOND);
        for (int v : NOT_0_TO_999) {
            no("answer at " + v, x -> x.answer(0, v), BEYOND);
        }
        for (int v : new int[] {-1, 3, 24, Integer.MIN_VALUE, Integer.MAX_VALUE}) {
            no("reading " + v, x -> x.reading(0, v, 0), BEYOND);
        }
        for (int v : NOT_0_TO_1) {
            no("reading, what " + v, x -> x.reading(0, 0, v), BEYOND);
        }
    }

    private static void trace() {
        for (int v : NOT_OF_3_PIECES) {
            no("trace, PIECE " + v, x -> x.trace(v, 1, 2), BEYOND);
        }
        for (int v : NOT_0_TO_3) {
            no("trace, SHEET " + v, x -> x.trace(0, v, 2), BEYOND);
        }
        for (int v : new int[] {-1, 25, -2, 26, Integer.MIN_VALUE, Integer.MAX_VALUE}) {
            no("trace, n " + v, x -> x.trace(0, 1, v), BEYOND);
            no("trace, n " + v + " ahead of a missing sheet", x -> x.trace(0, 2, v), BEYOND);
        }
        no("trace, a missing sheet", x -> x.trace(0, 2, 2), NONE);
        no("trace, a missing sheet, n 0", x -> x.trace(0, 2, 0), NONE);
        no("trace, a missing sheet ahead of an odd n", x -> x.trace(0, 2, 3), NONE);
        no("trace, an odd n", x -> x.trace(0, 1, 3), STATE);
        no("trace, an odd n ahead of too many", x -> x.trace(0, 1, 5), STATE);
        no("trace, an odd n ahead of a wrong number", x -> x.trace(0, 3, 3), STATE);
        no("trace, two more than the sheet has", x -> x.trace(0, 1, 6), BEYOND);
        Twins.refused("trace, one more than the sheet has", x -> with(x, 5, 1, 6), x -> x.trace(0, 1, 4), BEYOND);
        int[][] wrong = {{-1, 0}, {1000, 0}, {0, -3}, {0, 100000}, {0, 1, 1000, 0}, {5, 0, 4, 0}, {5, 0, 6, 0, 5, 0},
            {0, 0, 0, -3}, {Integer.MIN_VALUE, 0}, {0, Integer.MAX_VALUE}, {0, Integer.MIN_VALUE}};
        for (int[] w : wrong) {
            String what = "trace of " + java.util.Arrays.toString(w);
            Twins.refused(what, x -> with(x, w), x -> x.trace(0, 1, w.length), BEYOND);
        }
    }

    /** A house whose sheet 1 has these numbers, of 32 bits. */
    private static void with(StrengthHouse x, int... numbers) {
        Twins.house(x);
        Twins.numbers(x, 1, 32, numbers);
    }

    private static void limit() {
        int[] most = {99999, 999, 99999, 24, 5};
        for (int what = 0; what < 5; what++) {
            int w = what;
            no("limit " + w + ", too great", x -> x.limit(w, most[w] + 1), BEYOND);
            no("limit " + w + ", too small", x -> x.limit(w, -1), BEYOND);
            no("limit " + w + ", the greatest int", x -> x.limit(w, Integer.MAX_VALUE), BEYOND);
            no("limit " + w + ", the least int", x -> x.limit(w, Integer.MIN_VALUE), BEYOND);
        }
        for (int v : new int[] {-1, 5, Integer.MIN_VALUE, Integer.MAX_VALUE}) {
            no("limit, what " + v, x -> x.limit(v, 0), BEYOND);
        }
    }

    /** A house whose tape has so many bytes. */
    private static void tape(StrengthHouse x, int howMany) {
        Twins.house(x);
        while (x.count(4) < howMany) {
            x.feed(' ', 1);
        }
    }

    private static void feed() {
        for (int v : new int[] {0, 9, -1, Integer.MIN_VALUE, Integer.MAX_VALUE}) {
            no("feed, n " + v, x -> x.feed(0x20202020L, v), BEYOND);
            Twins.refused("feed, n " + v + " ahead of FULL", x -> tape(x, 64), x -> x.feed(0x20202020L, v), BEYOND);
        }
        for (int n = 1; n <= 8; n++) {
            int howMany = n;
            Twins.Setup full = x -> tape(x, 65 - howMany);
            Twins.refused("feed, one more than the tape takes", full, x -> x.feed(0x20202020L, howMany), FULL);
        }
        Twins.refused("feed, a full tape", x -> tape(x, 64), x -> x.feed(' ', 8), FULL);
    }

    private static void program() {
        for (int v : NOT_0_TO_3) {
            no("program " + v, x -> x.program(v), BEYOND);
        }
        // A fault is no ERROR: the one ahead stays, and the tape is empty, as if nothing had come.
        Twins.Call faulty = x -> bad(x, 1);
        Twins.Call emptied = x -> bad(x, 2);
        Twins.alike("a fault leaves the program ahead", Twins::house, faulty, emptied);
    }

    private static long bad(StrengthHouse x, int program) {
        x.feed(';', 1);
        long answered = x.program(program);
        Due.due("a fault", answered, -10 - 10);
        Due.due("the tape is empty", x.count(4), 0);
        Due.due("no ERROR", x.told(1), 0);
        return answered;
    }

    private static void run() {
        for (int v : NOT_0_TO_3) {
            no("run, PROGRAM " + v, x -> x.run(v, 0), BEYOND);
            no("ran " + v, x -> x.ran(v), BEYOND);
        }
        for (int v : NOT_OF_3_PIECES) {
            no("run, PIECE " + v, x -> x.run(0, v), BEYOND);
            no("run, PIECE " + v + " ahead of no PROGRAM", x -> x.run(2, v), BEYOND);
        }
        no("run, no PROGRAM", x -> x.run(2, 0), NONE);
        no("run, no PROGRAM", x -> x.run(3, 2), NONE);
        Twins.refused("ran, no RUN", x -> Due.program(x, 0, "read"), x -> x.ran(0), NONE);
        Twins.refused("ran, no RUN, what 3", RefusedTest::nothing, x -> x.ran(3), NONE);
        Twins.refused("ran, what 4 ahead of no RUN", RefusedTest::nothing, x -> x.ran(4), BEYOND);
    }

    private static void laws() {
        for (int v : NOT_OF_3_PIECES) {
            no("line, PIECE " + v, x -> x.line(v, 0), BEYOND);
            no("yields, PIECE " + v, x -> x.yields(v, 0), BEYOND);
            no("top, PIECE " + v, x -> x.top(v), BEYOND);
            no("breaks, PIECE " + v, x -> x.breaks(v, 0), BEYOND);
            no("spent, PIECE " + v, x -> x.spent(v, 0), BEYOND);
            no("number, PIECE " + v, x -> x.number(v, 0), BEYOND);
        }
        for (int v : new int[] {-1, 3, Integer.MIN_VALUE, Integer.MAX_VALUE}) {
            no("line, what " + v, x -> x.line(0, v), BEYOND);
            no("spent up to " + v, x -> x.spent(0, v), BEYOND);
        }
        for (int v : NOT_0_TO_999) {
            no("yields, offset " + v, x -> x.yields(0, v), BEYOND);
            no("curve at " + v, x -> x.curve(0, v, 0), BEYOND);
        }
        for (int v : NOT_0_TO_100) {
            no("breaks, fall " + v, x -> x.breaks(0, v), BEYOND);
        }
        for (int v : NOT_0_TO_3) {
            no("number, LAW " + v, x -> x.number(0, v), BEYOND);
            no("curve, LOT " + v, x -> x.curve(v, 0, 0), BEYOND);
            no("curve, what " + v, x -> x.curve(0, 0, v), BEYOND);
        }
        // Piece 2 has one reading, piece 0 two good ones, at 0 and 9.
        no("line, one GOOD READING", x -> x.line(2, 0), NONE);
        no("line, what ahead of NONE", x -> x.line(2, 3), BEYOND);
        no("yields, no LINE", x -> x.yields(2, 0), NONE);
        no("yields, offset ahead of NONE", x -> x.yields(2, 1000), BEYOND);
        no("breaks, no READING behind", x -> x.breaks(2, 0), NONE);
        no("breaks, fall ahead of NONE", x -> x.breaks(2, 101), BEYOND);
        no("yields, none below THE LINE", x -> x.yields(0, 0), NONE);
        no("number, no YIELD", x -> x.number(0, 1), NONE);
        no("number, no LINE", x -> x.number(2, 1), NONE);
        no("number, no BREAK", x -> x.number(0, 2), NONE);
        no("number, LAW ahead of NONE", x -> x.number(0, 4), BEYOND);
        no("curve, behind all", x -> x.curve(0, 10, 0), NONE);
        no("curve, no PIECE", x -> x.curve(3, 5, 2), NONE);
        no("curve, what ahead of NONE", x -> x.curve(3, 5, 4), BEYOND);
        Twins.Setup bare = x -> Due.piece(x, 0, 0, 10, 1, 2);
        Twins.refused("top, no READING", bare, x -> x.top(0), NONE);
        Twins.refused("breaks, no READING", bare, x -> x.breaks(0, 0), NONE);
        Twins.refused("spent, no READING", bare, x -> x.spent(0, 0), BEYOND);
        Twins.refused("number, no READING", bare, x -> x.number(0, 3), NONE);
    }

    private static void lots() {
        for (int v : NOT_0_TO_3) {
            no("odd, LOT " + v, x -> x.odd(v, 0, 0), BEYOND);
            no("odd, LAW " + v, x -> x.odd(0, v, 0), BEYOND);
            no("sure, LOT " + v, x -> x.sure(v, 0, 5, 5), BEYOND);
            no("sure, LAW " + v, x -> x.sure(0, v, 5, 5), BEYOND);
        }
        for (int v : NOT_0_TO_100) {
            no("odd, share " + v, x -> x.odd(0, 0, v), BEYOND);
        }
        for (int v : NOT_1_TO_9) {
            no("sure, p " + v, x -> x.sure(0, 0, v, 5), BEYOND);
            no("sure, t " + v, x -> x.sure(0, 0, 5, v), BEYOND);
            no("few, p " + v, x -> x.few(v, 5), BEYOND);
            no("few, t " + v, x -> x.few(5, v), BEYOND);
        }
        no("odd, two NUMBERS", x -> x.odd(0, 0, 0), NONE);
        no("odd, share ahead of NONE", x -> x.odd(0, 0, 101), BEYOND);
        no("sure, no such r", x -> x.sure(0, 0, 9, 9), NONE);
        no("sure, no NUMBER", x -> x.sure(3, 0, 1, 1), NONE);
        no("sure, t ahead of NONE", x -> x.sure(3, 0, 1, 10), BEYOND);
        no("few, no such n", x -> x.few(9, 9), NONE);
    }

    private static void prove() {
        for (int v : new int[] {0, 6, -1, Integer.MIN_VALUE, Integer.MAX_VALUE}) {
            no("prove, METER " + v, x -> x.prove(v, 0, 203, 4), BEYOND);
        }
        for (int v : NOT_0_TO_5) {
            no("prove, against " + v, x -> x.prove(3, v, 203, 4), BEYOND);
        }
        for (int v : new int[] {0, 1, 99, 100, 200, 9900, 10001, 10000, 10101, -101, -1, -9999, Integer.MIN_VALUE,
            Integer.MAX_VALUE}) {
            no("prove, factors " + v, x -> x.prove(3, 1, v, 4), BEYOND);
            no("prove, factors " + v + " ahead of STATE", x -> x.prove(3, 3, v, 4), BEYOND);
        }
        for (int v : NOT_0_TO_99) {
            no("prove, doubt " + v, x -> x.prove(3, 1, 203, v), BEYOND);
            no("prove, doubt " + v + " ahead of STATE", x -> x.prove(3, 3, 203, v), BEYOND);
        }
        no("prove, against itself", x -> x.prove(3, 3, 203, 4), STATE);
        no("prove, against one more", x -> x.prove(3, 4, 203, 4), STATE);
        no("prove, 1 against 1", x -> x.prove(1, 1, 203, 4), STATE);
        no("prove, 0 ahead of STATE", x -> x.prove(0, 0, 203, 4), BEYOND);
        no("prove, 5 against 5", x -> x.prove(5, 5, 203, 4), STATE);
    }

    private static void meters() {
        for (int v : NOT_0_TO_5) {
            no("led, METER " + v, x -> x.led(v, 0, 0), BEYOND);
            no("hangs, METER " + v, x -> x.hangs(v), BEYOND);
            no("enter, METER " + v, x -> x.enter(0, 0, v), BEYOND);
            no("enter, METER " + v + " ahead of NONE", x -> x.enter(3, 0, v), BEYOND);
        }
        for (int v : new int[] {-1, 100000, Integer.MIN_VALUE, Integer.MAX_VALUE}) {
            no("led, v " + v, x -> x.led(3, v, 0), BEYOND);
            no("led, v " + v + ", DOUBT", x -> x.led(3, v, 1), BEYOND);
        }
        for (int v : NOT_0_TO_1) {
            no("led, what " + v, x -> x.led(3, 0, v), BEYOND);
        }
    }

    /** A house with so many entries. */
    private static void entries(StrengthHouse x, int howMany) {
        Twins.house(x);
        while (x.count(1) < howMany) {
            x.enter(0, 0, x.count(1) % 6);
        }
    }

    private static void entries() {
        for (int v : NOT_0_TO_3) {
            no("enter, LOT " + v, x -> x.enter(v, 0, 0), BEYOND);
            no("enter, LAW " + v, x -> x.enter(0, v, 0), BEYOND);
            no("book, LOT " + v, x -> x.book(v, 0), BEYOND);
            no("book, LAW " + v, x -> x.book(0, v), BEYOND);
            no("entryIs, what " + v, x -> x.entryIs(0, v), BEYOND);
        }
        for (int v : new int[] {-1, 4, 20, Integer.MIN_VALUE, Integer.MAX_VALUE}) {
            no("entryIs, ENTRY " + v, x -> x.entryIs(v, 0), BEYOND);
        }
        no("entryIs, none took it back", x -> x.entryIs(1, 3), NONE);
        no("entryIs, what 4 of one not taken back", x -> x.entryIs(1, 4), BEYOND);
        no("enter, no PIECE", x -> x.enter(3, 0, 0), NONE);
        no("enter, no NUMBER", x -> x.enter(0, 2, 0), NONE);
        no("book, none of the LOT", x -> x.book(3, 0), NONE);
        no("book, none of the LAW", x -> x.book(0, 1), NONE);
        Twins.Setup full = x -> entries(x, 20);
        Twins.refused("a twenty-first entry", full, x -> x.enter(0, 0, 0), FULL);
        Twins.refused("no NUMBER ahead of FULL", full, x -> x.enter(3, 0, 0), NONE);
        Twins.refused("METER ahead of FULL", full, x -> x.enter(0, 0, 6), BEYOND);
        Twins.refused("entry 20", full, x -> x.entryIs(20, 0), BEYOND);
        Twins.refused("no entry", RefusedTest::nothing, x -> x.entryIs(0, 3), BEYOND);
        Twins.refused("an empty book", RefusedTest::nothing, x -> x.book(0, 0), NONE);
    }

    private static void back() {
        // Entries 0, 1 and 3 are of lot 0 and law 0, 2 is of lot 1 and law 3; 0 was taken back.
        for (int v : new int[] {-1, 4, 20, Integer.MIN_VALUE, Integer.MAX_VALUE}) {
            no("back, ENTRY " + v, x -> x.back(v, 3), BEYOND);
            no("back, because of " + v, x -> x.back(1, v), BEYOND);
            no("back, because of " + v + " ahead of STATE", x -> x.back(0, v), BEYOND);
        }
        no("back, because of itself", x -> x.back(1, 1), STATE);
        no("back, because of the one ahead", x -> x.back(1, 0), STATE);
        no("back, because of one of another LOT", x -> x.back(1, 2), STATE);
        no("back, again", x -> x.back(0, 1), STATE);
        no("back, again, because of another", x -> x.back(0, 3), STATE);
        no("back, the latest", x -> x.back(3, 3), STATE);
        Twins.Setup laws = x -> {
            Twins.house(x);
            x.enter(0, 3, 0);
        };
        Twins.refused("back, because of one of another LAW", laws, x -> x.back(1, 4), STATE);
    }

    private static void plates() {
        for (int v : NOT_0_TO_3) {
            no("plates, SHEET " + v, x -> x.plates(v, 2, 99), BEYOND);
        }
        for (int v : new int[] {-1, 11, Integer.MIN_VALUE, Integer.MAX_VALUE}) {
            no("plates, n " + v, x -> x.plates(1, v, 99), BEYOND);
            no("plates, n " + v + " ahead of a missing sheet", x -> x.plates(2, v, 99), BEYOND);
        }
        for (int v : new int[] {0, 1000, -1, Integer.MIN_VALUE, Integer.MAX_VALUE}) {
            no("plates, length " + v, x -> x.plates(1, 2, v), BEYOND);
            no("plates, length " + v + " ahead of a missing sheet", x -> x.plates(2, 2, v), BEYOND);
        }
        no("plates, a missing sheet", x -> x.plates(2, 2, 99), NONE);
        no("plates, none of a missing sheet", x -> x.plates(2, 0, 99), NONE);
        no("plates, one more than the sheet has", x -> x.plates(1, 5, 99), BEYOND);
        no("plates, too many ahead of one too long", x -> x.plates(1, 5, 29), BEYOND);
        no("plates, a length of 0", x -> x.plates(0, 1, 99), BEYOND);
        no("plates, one longer than a plate", x -> x.plates(1, 4, 29), STATE);
        no("plates, the first one longer than a plate", x -> x.plates(1, 1, 4), STATE);
        int[][] wrong = {{5, 0}, {0, 5}, {5, -1}, {5, 1000}, {5, 9, 1000}, {5, Integer.MIN_VALUE}, {999, 0}};
        for (int[] w : wrong) {
            String what = "plates of " + java.util.Arrays.toString(w);
            Twins.refused(what, x -> with(x, w), x -> x.plates(1, w.length, 999), BEYOND);
            Twins.refused(what + " ahead of STATE", x -> with(x, w), x -> x.plates(1, w.length, 4), BEYOND);
        }
    }

    private static void drift() {
        for (int v : new int[] {1, 13, 0, -2, Integer.MIN_VALUE, Integer.MAX_VALUE}) {
            no("drift " + v, x -> x.drift(v), BEYOND);
        }
    }

    private static void voice() {
        for (int v : NOT_OF_3_PIECES) {
            no("voice, PIECE " + v, x -> x.voice(v, 0, 0), BEYOND);
        }
        for (int v : NOT_0_TO_3) {
            no("voice, act " + v, x -> x.voice(0, v, 0), BEYOND);
            no("voice, act " + v + " ahead of PARTED", x -> x.voice(2, v, 0), BEYOND);
        }
        // Piece 2 has size 2.
        no("voice, PARTED", x -> x.voice(2, 3, 7), PARTED);
        no("voice, PARTED, x 0", x -> x.voice(2, 3, 0), PARTED);
        for (int v : new int[] {-1, 9, 30, Integer.MIN_VALUE, Integer.MAX_VALUE}) {
            no("body " + v, x -> x.body(v), NONE);
        }
        Twins.refused("body, no voice yet", RefusedTest::nothing, x -> x.body(0), NONE);
    }

    private static void sheets() {
        for (int v : NOT_0_TO_3) {
            no("sheet " + v, x -> x.sheet(v, 8, 2), BEYOND);
            no("sheet " + v + " ahead of n", x -> x.sheet(v, 8, -1), BEYOND);
            no("sheet " + v + ", missing", x -> x.sheet(v, 0, 2), BEYOND);
            no("put, SHEET " + v, x -> x.put(v, 0, 7), BEYOND);
        }
        for (int v : new int[] {1, 7, 9, 15, 17, 24, 31, 33, 64, -8, -16, -32, Integer.MIN_VALUE, Integer.MAX_VALUE}) {
            no("sheet of bits " + v, x -> x.sheet(0, v, 2), BEYOND);
            no("sheet of bits " + v + " ahead of n", x -> x.sheet(0, v, -1), BEYOND);
        }
        for (int bits = 8; bits <= 32; bits *= 2) {
            int b = bits;
            for (int v : new int[] {25, 26, Integer.MAX_VALUE}) {
                no("sheet of " + v, x -> x.sheet(0, b, v), BEYOND);
            }
            for (int v : new int[] {-1, -25, Integer.MIN_VALUE}) {
                no("sheet of " + v, x -> x.sheet(0, b, v), STATE);
            }
        }
        no("put, a missing sheet", x -> x.put(2, 0, 7), NONE);
        no("put, a missing sheet ahead of no such number", x -> x.put(2, -1, 7), NONE);
        for (int v : new int[] {-1, 3, 24, Integer.MIN_VALUE, Integer.MAX_VALUE}) {
            no("put, number " + v, x -> x.put(0, v, 7), BEYOND);
        }
    }

    private static void move() {
        for (int v : NOT_0_TO_3) {
            no("move, from SHEET " + v, x -> x.move(v, 0, 0, 0, 1), BEYOND);
            no("move, to SHEET " + v, x -> x.move(0, 0, v, 0, 1), BEYOND);
            no("move, to SHEET " + v + " ahead of NONE", x -> x.move(2, 0, v, 0, 1), BEYOND);
        }
        no("move, from a missing sheet", x -> x.move(2, 0, 0, 0, 1), NONE);
        no("move, to a missing sheet", x -> x.move(0, 0, 2, 0, 1), NONE);
        no("move, both missing", x -> x.move(2, 0, 2, 0, 0), NONE);
        no("move, missing ahead of n", x -> x.move(0, 0, 2, 0, -1), NONE);
        no("move, unlike bits", x -> x.move(0, 0, 1, 0, 1), KIND);
        no("move, unlike bits, nothing", x -> x.move(0, 0, 3, 0, 0), KIND);
        no("move, unlike bits ahead of n", x -> x.move(0, 0, 1, 0, -1), KIND);
        no("move, unlike bits ahead of i", x -> x.move(1, 4, 3, 0, 1), KIND);
        // Sheet 1 has 4 numbers; a sum of these would wrap.
        int most = Integer.MAX_VALUE;
        int least = Integer.MIN_VALUE;
        int[][] beyond = {{0, 0, -1}, {-1, 0, 1}, {0, -1, 1}, {0, 0, 5}, {1, 0, 4}, {0, 1, 4}, {4, 0, 1}, {0, 4, 1},
            {5, 0, 0}, {0, 5, 0}, {-1, 0, 0}, {0, -1, 0}, {most, 0, 1}, {0, most, 1}, {0, 0, most}, {most, 0, most},
            {1, 1, most}, {least, 0, 1}, {0, least, 1}, {0, 0, least}, {4, 4, least}, {least, 0, least}, {2, 3, 2}};
        for (int[] b : beyond) {
            no("move " + java.util.Arrays.toString(b), x -> x.move(1, b[0], 1, b[1], b[2]), BEYOND);
        }
    }

    private static void images() {
        Twins.Setup bare = x -> Due.piece(x, 0, 0, 10, 1, 2);
        Twins.refused("restore, no IMAGE", bare, x -> x.restore(), NONE);
    }

    private static void waiting() {
        Twins.Setup full = x -> {
            Twins.house(x);
            while (x.count(5) < 48) {
                x.tell(7);
            }
        };
        Twins.refused("a forty-ninth number", full, x -> x.tell(7), FULL);
        // But for told(), a check that is refused leaves what one leaves that isn't.
        Twins.Call done = x -> x.check(0, 0);
        int[][] wrong = {{-1, 0}, {4, 0}, {0, -1}, {0, 3}, {2, 3}, {2, 0}, {3, 2}};
        for (int[] w : wrong) {
            String what = "check " + java.util.Arrays.toString(w);
            Twins.alike(what, Twins::house, x -> x.check(w[0], w[1]), done);
            StrengthHouse x = new StrengthHouse();
            Twins.house(x);
            int k = w[0] >= 2 && w[0] < 4 && w[1] >= 0 && w[1] < 3 ? NONE : BEYOND;
            int ahead = x.told(k);
            Due.due(what, x.check(w[0], w[1]), -1000000 - k);
            Due.due(what + ": told", x.told(k), ahead + 1);
            Due.due(what + ": none wait", x.count(5), 0);
        }
    }

    private static void counts() {
        for (int v : new int[] {-1, 8, Integer.MIN_VALUE, Integer.MAX_VALUE}) {
            no("count " + v, x -> x.count(v), BEYOND);
        }
        for (int v : new int[] {0, 7, -1, Integer.MIN_VALUE, Integer.MAX_VALUE}) {
            no("told " + v, x -> x.told(v), BEYOND);
        }
    }
}
