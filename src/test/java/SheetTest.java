/** Promises 34 to 36. */
public final class SheetTest {
    public static void main(String[] args) {
        sheets();
        numbers();
        moves();
        Due.finish();
    }

    private static void sheets() {
        StrengthHouse x = new StrengthHouse();
        Due.due("sheet 4", x.sheet(4, 8, 1), Due.BEYOND);
        Due.due("sheet -1", x.sheet(-1, 8, 1), Due.BEYOND);
        Due.due("bits 7", x.sheet(0, 7, 1), Due.BEYOND);
        Due.due("bits 64", x.sheet(0, 64, 1), Due.BEYOND);
        Due.due("bits -8", x.sheet(0, -8, 1), Due.BEYOND);
        Due.due("bits ahead of n", x.sheet(0, 9, -1), Due.BEYOND);
        Due.due("sheet ahead of n", x.sheet(4, 8, -1), Due.BEYOND);
        Due.due("n 25", x.sheet(0, 8, 25), Due.BEYOND);
        Due.due("n -1", x.sheet(0, 8, -1), Due.STATE);
        Due.due("none yet", x.put(0, 0, 0), Due.NONE);
        Due.due("24", x.sheet(0, 8, 24), 1);
        Due.due("the last", x.put(0, 23, 1), 1);
        Due.due("behind it", x.put(0, 24, 1), Due.BEYOND);
        Due.due("ahead of all", x.put(0, -1, 1), Due.BEYOND);
        Due.due("0 numbers", x.sheet(0, 16, 0), 1);
        Due.due("none of 0", x.put(0, 0, 1), Due.BEYOND);
        Due.due("missing", x.sheet(0, 0, -5), 1);
        Due.due("missing", x.put(0, 0, 1), Due.NONE);
        Due.due("missing, again", x.sheet(0, 0, 99), 1);
        Due.due("no such sheet", x.put(4, 0, 1), Due.BEYOND);
        Due.due("no such sheet", x.put(-1, 0, 1), Due.BEYOND);
    }

    private static void numbers() {
        int[] bits = {8, 16, 32};
        for (int b : bits) {
            StrengthHouse x = new StrengthHouse();
            Due.piece(x, 0, 0, 10, 1, 2);
            x.sheet(0, b, 2);
            Due.due("0 at first", read(x), 0);
            x.put(0, 1, 100);
            Due.due("100", read(x), 100);
            x.put(0, 1, -2);
            Due.due("-2", read(x), -2);
            x.put(0, 1, 70000);
            Due.due("70000", read(x), b == 8 ? 112 : b == 16 ? 4464 : 70000);
            x.put(0, 1, 200);
            Due.due("200", read(x), b == 8 ? Due.BEYOND : 200);
            x.put(0, 1, 40000);
            Due.due("40000", read(x), b == 8 ? 64 : b == 16 ? Due.BEYOND : 40000);
            x.put(0, 1, 0x7fff00ff);
            Due.due("lowest bits", read(x), b == 8 ? -1 : b == 16 ? 255 : Due.BEYOND);
            x.put(0, 0, 6);
            x.put(0, 1, 5);
            Due.due("5", read(x), 5);
            Due.due("6", x.reading(0, 0, 0), 6);
            x.sheet(0, b, 2);
            Due.due("0 again", read(x), 0);
            Due.due("0 again", x.reading(0, 0, 0), 0);
        }
    }

    /** Number 1 of sheet 0, where a trace takes it. */
    private static int read(StrengthHouse x) {
        int n = x.trace(0, 0, 2);
        return n < 0 ? n : x.reading(0, 0, 1);
    }

    private static void moves() {
        StrengthHouse x = new StrengthHouse();
        Due.piece(x, 0, 0, 10, 1, 2);
        Due.row(x, 0, 1, 2, 3, 4, 5, 6);
        Due.row(x, 1, 7, 8, 9);
        Due.due("to the right", x.move(0, 0, 0, 2, 4), 4);
        sheetIs(x, "1:2 1:2 3:4");
        Due.row(x, 0, 1, 2, 3, 4, 5, 6);
        Due.due("to the left", x.move(0, 2, 0, 0, 4), 4);
        Due.due("a lesser one", x.trace(0, 0, 6), 3);
        sheetIs(x, "3:4 5:6 5:6");
        Due.due("from another", x.move(1, 1, 0, 4, 2), 2);
        sheetIs(x, "3:4 5:6 8:9");
        Due.due("no numbers", x.move(1, 3, 0, 6, 0), 0);
        Due.due("behind the end", x.move(1, 4, 0, 6, 0), Due.BEYOND);
        Due.due("behind the end", x.move(1, 3, 0, 7, 0), Due.BEYOND);
        Due.due("too many", x.move(1, 2, 0, 0, 2), Due.BEYOND);
        Due.due("too many there", x.move(1, 0, 0, 5, 2), Due.BEYOND);
        Due.due("n -1", x.move(1, 0, 0, 0, -1), Due.BEYOND);
        Due.due("i -1", x.move(1, -1, 0, 0, 1), Due.BEYOND);
        Due.due("j -1", x.move(1, 0, 0, -1, 1), Due.BEYOND);
        Due.due("great", x.move(1, Integer.MAX_VALUE, 0, 0, Integer.MAX_VALUE), Due.BEYOND);
        Due.due("great", x.move(1, 0, 0, Integer.MAX_VALUE, 3), Due.BEYOND);
        Due.due("great", x.move(1, Integer.MIN_VALUE, 0, 0, Integer.MIN_VALUE), Due.BEYOND);
        sheetIs(x, "3:4 5:6 8:9");
        Due.due("missing", x.move(0, 0, 2, 0, 1), Due.NONE);
        Due.due("missing", x.move(2, 0, 0, 0, 1), Due.NONE);
        Due.due("no such sheet ahead of missing", x.move(2, 0, 4, 0, 1), Due.BEYOND);
        Due.due("no such sheet", x.move(-1, 0, 0, 0, 1), Due.BEYOND);
        x.sheet(2, 16, 3);
        Due.due("unlike bits", x.move(0, 0, 2, 0, 1), Due.KIND);
        Due.due("unlike bits ahead of beyond", x.move(0, -1, 2, 0, 1), Due.KIND);
    }

    private static void sheetIs(StrengthHouse x, String want) {
        x.put(1, 0, 0);
        StringBuilder got = new StringBuilder();
        for (int i = 0; i < 6; i += 2) {
            Due.due("row of two", x.sheet(3, 32, 2), 1);
            x.move(0, i, 3, 0, 2);
            x.trace(0, 3, 2);
            got.append(i == 0 ? "" : " ").append(Due.readings(x, 0));
        }
        Due.same("sheet", got.toString(), want);
    }
}
