/** Terms 1 and promises 1 to 7 at their edges: at each edge, just inside it and just outside it. */
public final class PieceEdgesTest {
    public static void main(String[] args) {
        whatAPieceIsMadeOf();
        fourteenPieces();
        loadsOfAPiece();
        howManyAnswers();
        behindTheLastAnswer();
        straightBetweenAnswers();
        sizeByTen();
        halfOfABentOne();
        fiveLessOfANotchedOne();
        kindsUnderKinds();
        numbersOfATrace();
        howManyReadings();
        stretchesOfATrace();
        inPlaceOfThoseAhead();
        goodOnes();
        aNewObject();
        fiveHundredAndTwelveCalls();
        Due.finish();
    }

    private static StrengthHouse withSheet(int... numbers) {
        StrengthHouse x = new StrengthHouse();
        Due.row(x, 0, numbers);
        return x;
    }

    /** KINDS 0 to 5, LOT 0 .. 3, SIZE 1 .. 99, SHEETS 0 .. 3. */
    private static void whatAPieceIsMadeOf() {
        StrengthHouse x = withSheet(1, 2);
        Due.due("KIND -1", x.piece(-1, 0, 1, 0, 2), Due.BEYOND);
        Due.due("KIND 0", x.piece(0, 0, 1, 0, 2), 0);
        Due.due("KIND 1", x.piece(1, 0, 1, 0, 2), 1);
        Due.due("KIND 4", x.piece(4, 0, 1, 0, 2), 2);
        Due.due("KIND 5", x.piece(5, 0, 1, 0, 2), 3);
        Due.due("KIND 6", x.piece(6, 0, 1, 0, 2), Due.BEYOND);
        Due.due("LOT -1", x.piece(0, -1, 1, 0, 2), Due.BEYOND);
        Due.due("LOT 1", x.piece(0, 1, 1, 0, 2), 4);
        Due.due("LOT 2", x.piece(0, 2, 1, 0, 2), 5);
        Due.due("LOT 3", x.piece(0, 3, 1, 0, 2), 6);
        Due.due("LOT 4", x.piece(0, 4, 1, 0, 2), Due.BEYOND);
        Due.due("SIZE 0", x.piece(0, 0, 0, 0, 2), Due.BEYOND);
        Due.due("SIZE 2", x.piece(0, 0, 2, 0, 2), 7);
        Due.due("SIZE 98", x.piece(0, 0, 98, 0, 2), 8);
        Due.due("SIZE 99", x.piece(0, 0, 99, 0, 2), 9);
        Due.due("SIZE 100", x.piece(0, 0, 100, 0, 2), Due.BEYOND);
        Due.due("SHEET -1", x.piece(0, 0, 1, -1, 2), Due.BEYOND);
        for (int sheet = 1; sheet <= 3; sheet++) {
            Due.due("SHEET " + sheet + ", missing", x.piece(0, 0, 1, sheet, 2), Due.NONE);
            Due.row(x, sheet, 3, 4);
            Due.due("SHEET " + sheet, x.piece(0, 0, 1, sheet, 2), 9 + sheet);
        }
        Due.due("SHEET 4", x.piece(0, 0, 1, 4, 2), Due.BEYOND);
        int[][] want = {{0, 0, 1}, {1, 0, 1}, {4, 0, 1}, {5, 0, 1}, {0, 1, 1}, {0, 2, 1}, {0, 3, 1}, {0, 0, 2},
            {0, 0, 98}, {0, 0, 99}, {0, 0, 1}, {0, 0, 1}, {0, 0, 1}};
        for (int piece = 0; piece < want.length; piece++) {
            for (int what = 0; what < 3; what++) {
                Due.due("piece " + piece + " is " + what, x.pieceIs(piece, what), want[piece][what]);
            }
        }
        Due.due("PIECE 12", x.pieceIs(12, 3), 2);
        Due.due("PIECE 13", x.pieceIs(13, 3), Due.BEYOND);
        Due.due("PIECE -1", x.pieceIs(-1, 3), Due.BEYOND);
        Due.due("what 5", x.pieceIs(0, 5), 0);
        Due.due("what 6", x.pieceIs(0, 6), Due.BEYOND);
    }

    /** PIECES 0, 1, .. (at most 14). */
    private static void fourteenPieces() {
        StrengthHouse x = withSheet(1, 2);
        for (int i = 0; i < 14; i++) {
            Due.due("how many", x.count(0), i);
            Due.due("no piece " + i + " yet", x.pieceIs(i, 0), Due.BEYOND);
            Due.due("piece " + i, x.piece(i % 6, 0, 1, 0, 2), i);
            Due.due("piece " + i + " is", x.pieceIs(i, 0), i % 6);
        }
        Due.due("a fifteenth", x.piece(0, 0, 1, 0, 2), Due.FULL);
        Due.due("how many", x.count(0), 14);
        Due.due("no piece 14", x.pieceIs(14, 0), Due.BEYOND);
        Due.due("piece 13 stays", x.pieceIs(13, 0), 1);
        Due.due("again", x.piece(0, 0, 1, 0, 2), Due.FULL);
        Due.due("told", x.told(4), 2);
    }

    /** ANSWERS are loads (0 .. 9999). */
    private static void loadsOfAPiece() {
        StrengthHouse x = withSheet(0, 9999, 9998, 1, 10000, -1);
        Due.due("0 to 9999", x.piece(0, 0, 10, 0, 4), 0);
        Due.due("0", x.answer(0, 0), 0);
        Due.due("9999", x.answer(0, 10), 9999);
        Due.due("9998", x.answer(0, 20), 9998);
        Due.due("1", x.answer(0, 30), 1);
        Due.due("10000", x.piece(0, 0, 10, 0, 5), Due.BEYOND);
        x.put(0, 4, 9999);
        Due.due("9999", x.piece(0, 0, 10, 0, 5), 1);
        Due.due("-1", x.piece(0, 0, 10, 0, 6), Due.BEYOND);
        x.put(0, 5, 0);
        Due.due("0", x.piece(0, 0, 10, 0, 6), 2);
        Due.due("three", x.count(0), 3);
        x.put(0, 0, -1);
        Due.due("the first", x.piece(0, 0, 10, 0, 2), Due.BEYOND);
        x.put(0, 0, 10000);
        Due.due("the first", x.piece(0, 0, 10, 0, 2), Due.BEYOND);
    }

    /** 2 to 12 of them, the first ones of the sheet. */
    private static void howManyAnswers() {
        StrengthHouse x = withSheet(1, 2, 3, 4, 5, 6, 7, 8, 9, 10, 11, 12, 13);
        Due.due("1", x.piece(0, 0, 10, 0, 1), Due.BEYOND);
        Due.due("2", x.piece(0, 0, 10, 0, 2), 0);
        Due.due("3", x.piece(0, 0, 10, 0, 3), 1);
        Due.due("11", x.piece(0, 0, 10, 0, 11), 2);
        Due.due("12", x.piece(0, 0, 10, 0, 12), 3);
        Due.due("13", x.piece(0, 0, 10, 0, 13), Due.BEYOND);
        int[] howMany = {2, 3, 11, 12};
        for (int piece = 0; piece < 4; piece++) {
            Due.due("how many", x.pieceIs(piece, 3), howMany[piece]);
            Due.due("the first", x.answer(piece, 0), 1);
            Due.due("the last", x.answer(piece, 10 * howMany[piece] - 10), howMany[piece]);
            Due.due("behind it", x.answer(piece, 10 * howMany[piece] - 9), 0);
        }
        Due.row(x, 1, 5, 6);
        Due.due("as many as there are", x.piece(0, 0, 10, 1, 2), 4);
        Due.due("one more", x.piece(0, 0, 10, 1, 3), Due.BEYOND);
        Due.due("a sheet of 1", x.sheet(1, 32, 1), 1);
        Due.due("a sheet of 1", x.piece(0, 0, 10, 1, 2), Due.BEYOND);
        Due.due("a sheet of none", x.sheet(1, 32, 0), 1);
        Due.due("a sheet of none", x.piece(0, 0, 10, 1, 2), Due.BEYOND);
    }

    /** 0 beyond the last one of ANSWERS; stretches are 0 .. 999. */
    private static void behindTheLastAnswer() {
        StrengthHouse x = new StrengthHouse();
        for (int kind = 0; kind < 6; kind++) {
            Due.piece(x, kind, 0, 10, 20, 40, 60);
        }
        int[] at19 = {58, 58, 29, 58, 58, 24};
        int[] at20 = {60, 60, 30, 60, 60, 25};
        for (int kind = 0; kind < 6; kind++) {
            Due.due("-1", x.answer(kind, -1), Due.BEYOND);
            Due.due("0", x.answer(kind, 0), kind == 2 ? 10 : kind == 5 ? 5 : 20);
            Due.due("one ahead of the last", x.answer(kind, 19), at19[kind]);
            Due.due("the last", x.answer(kind, 20), at20[kind]);
            Due.due("one behind the last", x.answer(kind, 21), 0);
            Due.due("998", x.answer(kind, 998), 0);
            Due.due("999", x.answer(kind, 999), 0);
            Due.due("1000", x.answer(kind, 1000), Due.BEYOND);
        }
        int longest = Due.piece(x, 0, 0, 10, 1, 2, 3, 4, 5, 6, 7, 8, 9, 10, 11, 12);
        Due.due("109", x.answer(longest, 109), 11);
        Due.due("110", x.answer(longest, 110), 12);
        Due.due("111", x.answer(longest, 111), 0);
        Due.due("PIECE 7", x.answer(7, 0), Due.BEYOND);
    }

    /** In between straight, cut. */
    private static void straightBetweenAnswers() {
        StrengthHouse x = new StrengthHouse();
        Due.piece(x, 0, 0, 10, 5, 8, 108, 8);
        int[] up = {5, 5, 5, 5, 6, 6, 6, 7, 7, 7, 8};
        for (int i = 0; i < up.length; i++) {
            Due.due("3 more, at " + i, x.answer(0, i), up[i]);
        }
        Due.due("by 10", x.answer(0, 11), 18);
        Due.due("by 10", x.answer(0, 19), 98);
        Due.due("by 10", x.answer(0, 20), 108);
        Due.due("10 less", x.answer(0, 21), 98);
        Due.due("10 less", x.answer(0, 29), 18);
        Due.due("10 less", x.answer(0, 30), 8);
        Due.piece(x, 0, 0, 99, 0, 9999);
        Due.due("great ones", x.answer(1, 9), 8999 * 99 / 10);
    }

    /** Times SIZE, by 10: what ANSWERS tell is cut ahead of it. */
    private static void sizeByTen() {
        StrengthHouse x = new StrengthHouse();
        Due.piece(x, 0, 0, 1, 9, 10, 11, 19, 20);
        int[] want = {0, 1, 1, 1, 2};
        for (int i = 0; i < want.length; i++) {
            Due.due("SIZE 1", x.answer(0, 10 * i), want[i]);
        }
        Due.piece(x, 0, 0, 99, 9, 9999);
        Due.due("SIZE 99", x.answer(1, 0), 89);
        Due.due("the greatest", x.answer(1, 10), 98990);
        // 0 and one tenth of 9 more is 0; 99 times 0.9 would be 89 tenths.
        Due.piece(x, 0, 0, 99, 0, 9);
        Due.due("cut ahead of SIZE", x.answer(2, 1), 0);
        Due.due("cut ahead of SIZE", x.answer(2, 2), 9);
    }

    /** Of a BENT one half of that. */
    private static void halfOfABentOne() {
        StrengthHouse x = new StrengthHouse();
        Due.piece(x, 2, 0, 10, 0, 1, 2, 3, 9999);
        int[] want = {0, 0, 1, 1, 4999};
        for (int i = 0; i < want.length; i++) {
            Due.due("half", x.answer(0, 10 * i), want[i]);
        }
        Due.piece(x, 2, 0, 15, 1, 3);
        Due.due("by 10 ahead of half", x.answer(1, 10), 2);
    }

    /** Of a NOTCHED one 5 less than a BENT one's (0 at least). */
    private static void fiveLessOfANotchedOne() {
        StrengthHouse x = new StrengthHouse();
        Due.piece(x, 5, 0, 10, 0, 8, 9, 10, 11, 12, 13, 14, 9999);
        int[] want = {0, 0, 0, 0, 0, 1, 1, 2, 4994};
        for (int i = 0; i < want.length; i++) {
            Due.due("5 less", x.answer(0, 10 * i), want[i]);
        }
        Due.due("behind the last", x.answer(0, 81), 0);
    }

    /** A PIECE as one of a KIND: of that KIND, or of one under it. */
    private static void kindsUnderKinds() {
        StrengthHouse x = new StrengthHouse();
        for (int kind = 0; kind < 6; kind++) {
            Due.piece(x, kind, 0, 20 + kind, 1, 2);
        }
        int[][] as = {{0, 0}, {1, 0}, {1, 1}, {2, 0}, {2, 2}, {3, 0}, {3, 1}, {3, 3}, {4, 0}, {4, 4}, {5, 0}, {5, 2},
            {5, 5}};
        int not = 36;
        for (int kind = 0; kind < 6; kind++) {
            for (int asked = 0; asked < 6; asked++) {
                boolean is = false;
                for (int[] one : as) {
                    is |= one[0] == kind && one[1] == asked;
                }
                not -= is ? 1 : 0;
                Due.due(kind + " as " + asked, x.as(kind, asked), is ? 20 + kind : Due.KIND);
            }
            Due.due("as -1", x.as(kind, -1), Due.BEYOND);
            Due.due("as 6", x.as(kind, 6), Due.BEYOND);
        }
        Due.due("told", x.told(5), not);
        Due.due("told", x.told(1), 12);
    }

    private static void traceIs(String what, int want, String readings, int... numbers) {
        StrengthHouse x = new StrengthHouse();
        Due.piece(x, 0, 0, 10, 1, 2);
        Due.trace(x, 0, 3, 33);
        Due.due(what, Due.trace(x, 0, numbers), want);
        Due.same(what, Due.readings(x, 0), want < 0 ? "3:33" : readings);
        Due.due(what + ": told", x.told(1), want < 0 ? 1 : 0);
    }

    /** Stretches (0 .. 999) and loads (-2 .. 99999). */
    private static void numbersOfATrace() {
        traceIs("stretch -1", Due.BEYOND, "", -1, 5);
        traceIs("stretch 0", 1, "0:5", 0, 5);
        traceIs("stretch 1", 1, "1:5", 1, 5);
        traceIs("stretch 998", 1, "998:5", 998, 5);
        traceIs("stretch 999", 1, "999:5", 999, 5);
        traceIs("stretch 1000", Due.BEYOND, "", 1000, 5);
        traceIs("load -3", Due.BEYOND, "", 5, -3);
        traceIs("load -2", 1, "5:-2", 5, -2);
        traceIs("load -1", 1, "5:-1", 5, -1);
        traceIs("load 0", 1, "5:0", 5, 0);
        traceIs("load 99998", 1, "5:99998", 5, 99998);
        traceIs("load 99999", 1, "5:99999", 5, 99999);
        traceIs("load 100000", Due.BEYOND, "", 5, 100000);
        traceIs("the last load", Due.BEYOND, "", 5, 1, 6, 2, 7, -3);
        traceIs("the last stretch", Due.BEYOND, "", 5, 1, 6, 2, 1000, 3);
    }

    /** n is 0 .. 24, two by two, no more than the sheet has. */
    private static void howManyReadings() {
        traceIs("n 0", 0, "");
        StrengthHouse x = new StrengthHouse();
        Due.piece(x, 0, 0, 10, 1, 2);
        int[] row = new int[24];
        for (int i = 0; i < 24; i++) {
            row[i] = i;
        }
        Due.row(x, 0, row);
        int[] want = {0, Due.STATE, 1, Due.STATE, 2};
        for (int n = 0; n < 5; n++) {
            Due.due("n " + n, x.trace(0, 0, n), want[n]);
        }
        Due.due("n 22", x.trace(0, 0, 22), 11);
        Due.due("n 23", x.trace(0, 0, 23), Due.STATE);
        Due.due("they stay", x.pieceIs(0, 4), 11);
        Due.due("n 24", x.trace(0, 0, 24), 12);
        Due.due("n 25", x.trace(0, 0, 25), Due.BEYOND);
        Due.due("n 26", x.trace(0, 0, 26), Due.BEYOND);
        Due.due("n -1", x.trace(0, 0, -1), Due.BEYOND);
        Due.due("n -2", x.trace(0, 0, -2), Due.BEYOND);
        Due.due("they stay", x.pieceIs(0, 4), 12);
        Due.due("reading -1", x.reading(0, -1, 0), Due.BEYOND);
        Due.due("reading 0", x.reading(0, 0, 0), 0);
        Due.due("reading 11", x.reading(0, 11, 0), 22);
        Due.due("its load", x.reading(0, 11, 1), 23);
        Due.due("reading 12", x.reading(0, 12, 0), Due.BEYOND);
        Due.due("what -1", x.reading(0, 0, -1), Due.BEYOND);
        Due.due("what 2", x.reading(0, 0, 2), Due.BEYOND);
        Due.row(x, 1, 7, 8, 9);
        Due.due("n 2 of 3", x.trace(0, 1, 2), 1);
        Due.due("n 4 of 3", x.trace(0, 1, 4), Due.BEYOND);
        Due.due("a sheet of none", x.sheet(1, 8, 0), 1);
        Due.due("n 2 of none", x.trace(0, 1, 2), Due.BEYOND);
        Due.same("it stays", Due.readings(x, 0), "7:8");
        Due.due("n 0 of none", x.trace(0, 1, 0), 0);
        Due.same("none", Due.readings(x, 0), "");
        Due.due("of none", x.reading(0, 0, 0), Due.BEYOND);
    }

    /** Or a stretch is less than the one ahead. */
    private static void stretchesOfATrace() {
        traceIs("one more", 2, "5:1 6:1", 5, 1, 6, 1);
        traceIs("as much", 2, "5:1 5:1", 5, 1, 5, 1);
        traceIs("one less", Due.BEYOND, "", 5, 1, 4, 1);
        traceIs("less than the one ahead alone", Due.BEYOND, "", 5, 1, 9, 1, 6, 1);
        traceIs("999 and 999", 2, "999:1 999:2", 999, 1, 999, 2);
        traceIs("0 and 0", 2, "0:1 0:2", 0, 1, 0, 2);
        traceIs("loads may be less", 2, "5:9 6:-2", 5, 9, 6, -2);
        traceIs("a load is no stretch", 2, "5:99 6:1", 5, 99, 6, 1);
    }

    /** In place of those ahead, of that PIECE alone. */
    private static void inPlaceOfThoseAhead() {
        StrengthHouse x = new StrengthHouse();
        Due.piece(x, 0, 0, 10, 1, 2);
        Due.piece(x, 0, 0, 10, 1, 2);
        Due.trace(x, 0, 1, 2, 3, 4, 5, 6);
        Due.trace(x, 1, 7, 8);
        Due.trace(x, 0, 9, 10);
        Due.same("in place", Due.readings(x, 0), "9:10");
        Due.same("the other one keeps its own", Due.readings(x, 1), "7:8");
        Due.due("of all", x.count(7), 2);
        Due.row(x, 3, 1, 1);
        Due.same("the sheet is read once", Due.readings(x, 0), "9:10");
    }

    /** GOOD READINGS: whose load is no less than 0. */
    private static void goodOnes() {
        int[] loads = {-2, -1, 0, 1};
        for (int load : loads) {
            StrengthHouse x = new StrengthHouse();
            Due.piece(x, 0, 0, 10, 1, 2);
            Due.trace(x, 0, 5, load);
            Due.due("readings", x.pieceIs(0, 4), 1);
            Due.due("good, load " + load, x.pieceIs(0, 5), load < 0 ? 0 : 1);
            Due.due("top, load " + load, x.top(0), load < 0 ? Due.NONE : load);
            Due.due("spent law, load " + load, x.number(0, 3), load < 0 ? Due.NONE : 0);
        }
    }

    /** No PIECES, PROGRAMS, ENTRIES; each limit as at first; SHEETS are missing. */
    private static void aNewObject() {
        StrengthHouse x = new StrengthHouse();
        for (int k = 1; k <= 6; k++) {
            Due.due("told " + k, x.told(k), 0);
        }
        for (int what = 0; what < 8; what++) {
            Due.due("count " + what, x.count(what), 0);
        }
        for (int i = 0; i < 4; i++) {
            Due.due("no sheet " + i, x.put(i, 0, 0), Due.NONE);
            Due.due("no run", x.ran(i), Due.NONE);
            Due.due("no entry", x.book(i, i), Due.NONE);
            Due.due("no lot", x.curve(i, 0, 3), 0);
        }
        for (int meter = 0; meter < 6; meter++) {
            Due.due("as much", x.led(meter, 12345, 0), 12345);
            Due.due("no doubt", x.led(meter, 12345, 1), 0);
            Due.due("none hangs", x.hangs(meter), 0);
        }
        Due.piece(x, 0, 0, 10, 1, 2);
        for (int program = 0; program < 4; program++) {
            Due.due("no program", x.run(program, 0), Due.NONE);
        }
        Due.due("no image", x.restore(), Due.NONE);
        Due.due("none waits", x.tell(0), 1);
        Due.due("the tape is empty", x.feed(0, 1), 1);
        int[] first = {99999, 999, 99999, 0, 0};
        for (int what = 0; what < 5; what++) {
            Due.due("limit " + what, x.limit(what, 0), first[what]);
        }
        StrengthHouse y = new StrengthHouse();
        Due.due("each by itself", y.count(0), 0);
        Due.due("each by itself", y.limit(0, 5), 99999);
    }

    /** At most 512 calls: the last one answers as each one does. */
    private static void fiveHundredAndTwelveCalls() {
        StrengthHouse x = new StrengthHouse();
        for (int i = 1; i <= 510; i++) {
            Due.due("call " + i, x.pieceIs(0, 0), Due.BEYOND);
        }
        Due.due("call 511", x.told(1), 510);
        Due.due("call 512", x.told(1), 510);
    }
}
