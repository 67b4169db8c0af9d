/** SHEETS (Terms 6, promises 34 to 36) at their edges. */
public final class SheetEdgesTest {
    public static void main(String[] args) {
        bits();
        howManyNumbers();
        belowZeroAheadOfBeyond();
        allAreZero();
        missing();
        numberOfASheet();
        lowestBits();
        asTheyAllWere();
        whereTheyStand();
        unlikeBits();
        Due.finish();
    }

    /** Number i of sheet 0, if it is of 32 bits and a load. */
    private static int number(StrengthHouse x, int i) {
        Due.due("a row of two", x.sheet(3, 32, 2), 1);
        Due.due("its second", x.move(0, i, 3, 1, 1), 1);
        Due.due("as a reading", x.trace(0, 3, 2), 1);
        return x.reading(0, 0, 1);
    }

    private static StrengthHouse withPiece() {
        StrengthHouse x = new StrengthHouse();
        Due.piece(x, 0, 0, 10, 1, 2);
        x.sheet(3, 0, 0);
        return x;
    }

    /** 8, 16, 32 bits, 0: missing; SHEETS 0 .. 3. */
    private static void bits() {
        StrengthHouse x = new StrengthHouse();
        for (int bits = -2; bits <= 66; bits++) {
            boolean is = bits == 0 || bits == 8 || bits == 16 || bits == 32;
            Due.due("bits " + bits, x.sheet(0, bits, 1), is ? 1 : Due.BEYOND);
        }
        Due.due("as it was", x.put(0, 0, 5), 1);
        for (int sheet = -1; sheet <= 4; sheet++) {
            boolean is = sheet >= 0 && sheet <= 3;
            Due.due("SHEET " + sheet, x.sheet(sheet, 8, 1), is ? 1 : Due.BEYOND);
            Due.due("put, SHEET " + sheet, x.put(sheet, 0, 1), is ? 1 : Due.BEYOND);
        }
    }

    /** At most 24 numbers. */
    private static void howManyNumbers() {
        for (int bits = 8; bits <= 32; bits *= 2) {
            StrengthHouse x = new StrengthHouse();
            for (int n : new int[] {0, 1, 2, 23, 24}) {
                Due.due("n " + n, x.sheet(0, bits, n), 1);
                Due.due("the last of " + n, x.put(0, n - 1, 1), n == 0 ? Due.BEYOND : 1);
                Due.due("behind the last of " + n, x.put(0, n, 1), Due.BEYOND);
                Due.due("the first of " + n, x.put(0, 0, 1), n == 0 ? Due.BEYOND : 1);
            }
            Due.due("n 25", x.sheet(0, bits, 25), Due.BEYOND);
            Due.due("24 stay", x.put(0, 23, 1), 1);
        }
    }

    /** STATE: n is below 0 (ahead of BEYOND of n, behind the other BEYONDS). */
    private static void belowZeroAheadOfBeyond() {
        StrengthHouse x = new StrengthHouse();
        for (int bits = 8; bits <= 32; bits *= 2) {
            Due.due("n -1", x.sheet(0, bits, -1), Due.STATE);
            Due.due("n 0", x.sheet(1, bits, 0), 1);
            Due.due("the least n", x.sheet(0, bits, Integer.MIN_VALUE), Due.STATE);
            Due.due("no such bits", x.sheet(0, bits + 1, -1), Due.BEYOND);
            Due.due("no such SHEET", x.sheet(4, bits, -1), Due.BEYOND);
        }
        Due.due("still missing", x.put(0, 0, 0), Due.NONE);
        Due.due("told", x.told(3), 6);
    }

    /** N numbers, all 0, whatever was there. */
    private static void allAreZero() {
        StrengthHouse x = withPiece();
        Due.row(x, 0, 5, 6, 7);
        Due.due("7", number(x, 2), 7);
        Due.due("made again", x.sheet(0, 32, 3), 1);
        for (int i = 0; i < 3; i++) {
            Due.due("0", number(x, i), 0);
        }
        Due.row(x, 0, 5, 6, 7);
        Due.due("shorter", x.sheet(0, 32, 1), 1);
        Due.due("longer", x.sheet(0, 32, 3), 1);
        Due.due("0", number(x, 2), 0);
        Due.row(x, 0, 5, 6, 7);
        Due.due("refused", x.sheet(0, 32, 25), Due.BEYOND);
        Due.due("refused", x.sheet(0, 32, -1), Due.STATE);
        Due.due("refused", x.sheet(0, 12, 1), Due.BEYOND);
        Due.due("5 stays", number(x, 0), 5);
        Due.due("7 stays", number(x, 2), 7);
    }

    /** 0 bits: it is missing, n doesn't matter. */
    private static void missing() {
        for (int n : new int[] {0, 1, 24, 25, -1, Integer.MIN_VALUE, Integer.MAX_VALUE}) {
            StrengthHouse x = withPiece();
            Due.row(x, 0, 5, 6);
            Due.due("missing, n " + n, x.sheet(0, 0, n), 1);
            Due.due("put", x.put(0, 0, 1), Due.NONE);
            Due.due("move", x.move(0, 0, 0, 0, 0), Due.NONE);
            Due.due("piece", x.piece(0, 0, 1, 0, 2), Due.NONE);
            Due.due("trace", x.trace(0, 0, 0), Due.NONE);
            Due.due("plates", x.plates(0, 0, 1), Due.NONE);
            Due.due("again, n " + n, x.sheet(0, 0, n), 1);
            Due.due("there again", x.sheet(0, 32, 2), 1);
            Due.due("all 0", number(x, 1), 0);
        }
    }

    /** BEYOND: no such SHEET. NONE: it is missing. BEYOND: no such number. */
    private static void numberOfASheet() {
        StrengthHouse x = withPiece();
        Due.row(x, 0, 5, 6, 7);
        Due.due("-1", x.put(0, -1, 9), Due.BEYOND);
        Due.due("3", x.put(0, 3, 9), Due.BEYOND);
        Due.due("the least int", x.put(0, Integer.MIN_VALUE, 9), Due.BEYOND);
        Due.due("0", x.put(0, 0, 8), 1);
        Due.due("2", x.put(0, 2, 9), 1);
        int[] want = {8, 6, 9};
        for (int i = 0; i < 3; i++) {
            Due.due("number " + i, number(x, i), want[i]);
        }
        Due.due("SHEET 4 ahead of no such number", x.put(4, -1, 9), Due.BEYOND);
        Due.due("missing ahead of no such number", x.put(1, -1, 9), Due.NONE);
    }

    /** Its lowest bits. */
    private static void lowestBits() {
        int[] put = {0, 1, 127, 255, 256, 257, 32767, 65535, 65536, 65537, -1, -2, 0x7fffff7f, 0x7fff7fff};
        int[] of8 = {0, 1, 127, -1, 0, 1, -1, -1, 0, 1, -1, -2, 127, -1};
        int[] of16 = {0, 1, 127, 255, 256, 257, 32767, -1, 0, 1, -1, -2, -129, 32767};
        int[] of32 = {0, 1, 127, 255, 256, 257, 32767, 65535, 65536, 65537, -1, -2, 0x7fffff7f, 0x7fff7fff};
        for (int bits = 8; bits <= 32; bits *= 2) {
            int[] want = bits == 8 ? of8 : bits == 16 ? of16 : of32;
            StrengthHouse x = withPiece();
            x.sheet(0, bits, 2);
            for (int i = 0; i < put.length; i++) {
                Due.due("put " + put[i], x.put(0, 1, put[i]), 1);
                boolean isLoad = want[i] >= -2 && want[i] <= 99999;
                Due.due("as a reading", x.trace(0, 0, 2), isLoad ? 1 : Due.BEYOND);
                if (isLoad) {
                    Due.due(put[i] + " in " + bits, x.reading(0, 0, 1), want[i]);
                }
                Due.due("the one beside it", x.reading(0, 0, 0), 0);
            }
        }
        // 128 and 32768 are below 0 in as many bits.
        StrengthHouse x = withPiece();
        x.sheet(0, 8, 2);
        x.put(0, 1, 128);
        Due.due("128 in 8", x.trace(0, 0, 2), Due.BEYOND);
        x.sheet(0, 16, 2);
        x.put(0, 1, 128);
        Due.due("128 in 16", x.trace(0, 0, 2), 1);
        x.put(0, 1, 32768);
        Due.due("32768 in 16", x.trace(0, 0, 2), Due.BEYOND);
    }

    private static void movedIs(String what, int i, int j, int n, int... want) {
        StrengthHouse x = withPiece();
        Due.row(x, 0, 10, 11, 12, 13, 14);
        Due.due(what, x.move(0, i, 0, j, n), n);
        for (int k = 0; k < want.length; k++) {
            Due.due(what + ", number " + k, number(x, k), want[k]);
        }
    }

    /** Come to another one (or the same), as they all were. */
    private static void asTheyAllWere() {
        movedIs("one on", 0, 1, 4, 10, 10, 11, 12, 13);
        movedIs("one back", 1, 0, 4, 11, 12, 13, 14, 14);
        movedIs("where they are", 0, 0, 5, 10, 11, 12, 13, 14);
        movedIs("over each other", 0, 2, 3, 10, 11, 10, 11, 12);
        movedIs("over each other", 2, 0, 3, 12, 13, 14, 13, 14);
        movedIs("one", 4, 0, 1, 14, 11, 12, 13, 14);
        movedIs("none", 2, 4, 0, 10, 11, 12, 13, 14);
        movedIs("none, at the end", 5, 5, 0, 10, 11, 12, 13, 14);
        StrengthHouse x = withPiece();
        Due.row(x, 0, 10, 11, 12);
        Due.row(x, 1, 20, 21, 22, 23);
        Due.due("to another one", x.move(1, 1, 0, 0, 3), 3);
        int[] want = {21, 22, 23};
        for (int k = 0; k < 3; k++) {
            Due.due("number " + k, number(x, k), want[k]);
        }
        Due.due("the other one keeps them", x.move(1, 0, 0, 0, 3), 3);
        for (int k = 0; k < 3; k++) {
            Due.due("number " + k, number(x, k), 20 + k);
        }
        x.sheet(0, 8, 24);
        x.put(0, 0, 5);
        Due.due("24 of 24", x.move(0, 0, 0, 0, 24), 24);
        Due.due("23 of 24", x.move(0, 0, 0, 1, 23), 23);
    }

    /** BEYOND: n, i, or j is below 0, or they don't stand there. */
    private static void whereTheyStand() {
        StrengthHouse x = withPiece();
        Due.row(x, 0, 10, 11, 12);
        Due.row(x, 1, 20, 21, 22, 23, 24);
        for (int n = -1; n <= 6; n++) {
            for (int i = -1; i <= 6; i++) {
                boolean stands = n >= 0 && i >= 0 && i + n <= 5;
                Due.due("from " + i + ", " + n, x.move(1, i, 1, 0, n), stands ? n : Due.BEYOND);
                Due.due("to " + i + ", " + n, x.move(1, 0, 1, i, n), stands ? n : Due.BEYOND);
            }
        }
        Due.row(x, 1, 20, 21, 22, 23, 24);
        Due.due("one more than there is room", x.move(1, 0, 0, 0, 4), Due.BEYOND);
        Due.due("one more than there is room", x.move(1, 0, 0, 1, 3), Due.BEYOND);
        Due.due("one more than there are", x.move(0, 1, 1, 0, 3), Due.BEYOND);
        for (int k = 0; k < 3; k++) {
            Due.due("number " + k, number(x, k), 10 + k);
        }
        Due.due("as many as there is room", x.move(1, 2, 0, 0, 3), 3);
        for (int k = 0; k < 3; k++) {
            Due.due("number " + k, number(x, k), 22 + k);
        }
        int most = Integer.MAX_VALUE;
        Due.due("a sum that wraps", x.move(1, most, 0, 0, 1), Due.BEYOND);
        Due.due("a sum that wraps", x.move(1, 1, 0, 0, most), Due.BEYOND);
        Due.due("a sum that wraps", x.move(1, 0, 0, most, 1), Due.BEYOND);
        Due.due("a sum that wraps", x.move(1, most, 0, most, most), Due.BEYOND);
        x.sheet(2, 32, 0);
        Due.due("none of none", x.move(2, 0, 2, 0, 0), 0);
        Due.due("one of none", x.move(2, 0, 0, 0, 1), Due.BEYOND);
    }

    /** BEYOND: no such SHEET. NONE: one is missing. KIND: they are of unlike bits. */
    private static void unlikeBits() {
        StrengthHouse x = new StrengthHouse();
        int[] bits = {8, 16, 32};
        for (int a = 0; a < 3; a++) {
            x.sheet(a, bits[a], 2);
        }
        for (int a = -1; a <= 4; a++) {
            for (int b = -1; b <= 4; b++) {
                boolean isSheet = a >= 0 && a <= 3 && b >= 0 && b <= 3;
                int want = !isSheet ? Due.BEYOND : a == 3 || b == 3 ? Due.NONE : a != b ? Due.KIND : 1;
                Due.due("from " + a + " to " + b, x.move(a, 0, b, 1, 1), want);
                int wrong = want == 1 ? Due.BEYOND : want;
                Due.due("beyond, from " + a + " to " + b, x.move(a, 0, b, 1, 2), wrong);
                Due.due("below 0, from " + a + " to " + b, x.move(a, 0, b, 1, -1), wrong);
            }
        }
    }
}
