/** Promises 1 to 7. */
public final class PieceTest {
    public static void main(String[] args) {
        aNewObject();
        makingPieces();
        whatAPieceIs();
        kinds();
        answers();
        traces();
        Due.finish();
    }

    private static void aNewObject() {
        StrengthHouse x = new StrengthHouse();
        for (int what = 0; what <= 7; what++) {
            Due.due("count " + what, x.count(what), 0);
        }
        Due.due("pieceIs", x.pieceIs(0, 0), Due.BEYOND);
        Due.due("ran", x.ran(0), Due.NONE);
        Due.due("restore", x.restore(), Due.NONE);
        Due.due("entryIs", x.entryIs(0, 0), Due.BEYOND);
        Due.due("body", x.body(0), Due.NONE);
    }

    private static void makingPieces() {
        StrengthHouse x = new StrengthHouse();
        Due.due("no sheet yet", x.piece(0, 0, 1, 0, 2), Due.NONE);
        Due.row(x, 0, 0, 9999, 10000, 5, 6, 7, 8, 9, 10, 11, 12, 13, 14);
        int[][] beyond = {{-1, 0, 1, 0, 2}, {6, 0, 1, 0, 2}, {0, -1, 1, 0, 2}, {0, 4, 1, 0, 2},
            {0, 0, 0, 0, 2}, {0, 0, 100, 0, 2}, {0, 0, 1, -1, 2}, {0, 0, 1, 4, 2}, {0, 0, 1, 0, 1},
            {0, 0, 1, 0, 13}, {0, 0, 1, 0, 3}, {0, 0, 1, 0, -1}, {0, 0, 1, 1, 13}};
        for (int[] b : beyond) {
            Due.due("piece beyond", x.piece(b[0], b[1], b[2], b[3], b[4]), Due.BEYOND);
        }
        Due.due("missing sheet", x.piece(0, 0, 1, 1, 2), Due.NONE);
        x.put(0, 1, -1);
        Due.due("a load below 0", x.piece(0, 0, 1, 0, 2), Due.BEYOND);
        x.put(0, 1, 9999);
        x.put(0, 2, 4);
        Due.due("twelve answers", x.piece(5, 3, 99, 0, 12), 0);
        Due.due("size 1", x.piece(0, 0, 1, 0, 2), 1);
        Due.due("no room for 3 of 2", shortSheet(x), Due.BEYOND);
        for (int i = 2; i < 14; i++) {
            Due.due("piece", x.piece(i % 6, i % 4, i, 0, 3), i);
        }
        Due.due("a fifteenth", x.piece(0, 0, 1, 0, 2), Due.FULL);
        Due.due("beyond ahead of full", x.piece(0, 0, 1, 0, 13), Due.BEYOND);
        Due.due("count", x.count(0), 14);
        Due.due("told full", x.told(4), 1);
        x.put(0, 0, 77);
        Due.due("answers stay as they were", x.answer(1, 0), 0);
    }

    private static int shortSheet(StrengthHouse x) {
        Due.row(x, 2, 1, 2);
        return x.piece(0, 0, 1, 2, 3);
    }

    private static void whatAPieceIs() {
        StrengthHouse x = new StrengthHouse();
        Due.due("piece", Due.piece(x, 3, 2, 45, 1, 2, 3, 4, 5), 0);
        int[] want = {3, 2, 45, 5, 0, 0};
        for (int what = 0; what < want.length; what++) {
            Due.due("pieceIs " + what, x.pieceIs(0, what), want[what]);
        }
        Due.trace(x, 0, 1, 5, 2, -1, 3, -2, 3, 0);
        Due.due("readings", x.pieceIs(0, 4), 4);
        Due.due("good ones", x.pieceIs(0, 5), 2);
        Due.due("what 6", x.pieceIs(0, 6), Due.BEYOND);
        Due.due("what -1", x.pieceIs(0, -1), Due.BEYOND);
        Due.due("piece 1", x.pieceIs(1, 0), Due.BEYOND);
        Due.due("piece -1", x.pieceIs(-1, 0), Due.BEYOND);
    }

    private static void kinds() {
        StrengthHouse x = new StrengthHouse();
        boolean[][] is = {
            {true, false, false, false, false, false},
            {true, true, false, false, false, false},
            {true, false, true, false, false, false},
            {true, true, false, true, false, false},
            {true, false, false, false, true, false},
            {true, false, true, false, false, true}};
        for (int kind = 0; kind < 6; kind++) {
            Due.piece(x, kind, 0, 10 + kind, 1, 2);
            for (int asked = 0; asked < 6; asked++) {
                Due.due(kind + " as " + asked, x.as(kind, asked), is[kind][asked] ? 10 + kind : Due.KIND);
            }
        }
        Due.due("as 6", x.as(0, 6), Due.BEYOND);
        Due.due("as -1", x.as(0, -1), Due.BEYOND);
        Due.due("piece 6", x.as(6, 0), Due.BEYOND);
        Due.due("told kind", x.told(5), 36 - 13);
    }

    private static void answers() {
        StrengthHouse x = new StrengthHouse();
        int[] loads = {7, 18, 18, 3};
        for (int kind = 0; kind < 6; kind++) {
            Due.piece(x, kind, 0, 25, loads);
        }
        // 7 by 11 more, 4 tenths of the way: 7 + 4 = 11; 25 times that by 10: 27.
        int[] at4 = {27, 27, 13, 27, 27, 8};
        int[] at0 = {17, 17, 8, 17, 17, 3};
        int[] at30 = {7, 7, 3, 7, 7, 0};
        for (int kind = 0; kind < 6; kind++) {
            Due.due(kind + " at 4", x.answer(kind, 4), at4[kind]);
            Due.due(kind + " at 0", x.answer(kind, 0), at0[kind]);
            Due.due(kind + " at 30", x.answer(kind, 30), at30[kind]);
            Due.due(kind + " at 31", x.answer(kind, 31), 0);
            Due.due(kind + " at 999", x.answer(kind, 999), 0);
        }
        // 18 and 15 less, 9 tenths of the way: 13 less.
        Due.due("down", x.answer(0, 29), 5 * 25 / 10);
        Due.due("stretch -1", x.answer(0, -1), Due.BEYOND);
        Due.due("stretch 1000", x.answer(0, 1000), Due.BEYOND);
        Due.due("piece 6", x.answer(6, 0), Due.BEYOND);
        Due.piece(x, 0, 0, 99, 9999, 9999);
        Due.due("the greatest", x.answer(6, 5), 9999 * 99 / 10);
    }

    private static void traces() {
        StrengthHouse x = new StrengthHouse();
        Due.piece(x, 0, 0, 10, 1, 2);
        Due.due("two", Due.trace(x, 0, 0, 99999, 999, -2), 2);
        Due.same("readings", Due.readings(x, 0), "0:99999 999:-2");
        Due.due("like stretches", Due.trace(x, 0, 5, 1, 5, 2, 6, 3), 3);
        Due.due("a lesser stretch", Due.trace(x, 0, 5, 1, 4, 2), Due.BEYOND);
        Due.due("a stretch below 0", Due.trace(x, 0, -1, 1), Due.BEYOND);
        Due.due("a stretch above 999", Due.trace(x, 0, 1000, 1), Due.BEYOND);
        Due.due("a load below -2", Due.trace(x, 0, 1, -3), Due.BEYOND);
        Due.due("a load above 99999", Due.trace(x, 0, 1, 100000), Due.BEYOND);
        Due.same("they stay", Due.readings(x, 0), "5:1 5:2 6:3");
        Due.due("odd", Due.trace(x, 0, 1, 2, 3), Due.STATE);
        Due.due("piece", x.trace(1, 3, 2), Due.BEYOND);
        Due.due("sheet 4", x.trace(0, 4, 2), Due.BEYOND);
        Due.due("n 25", x.trace(0, 3, 25), Due.BEYOND);
        Due.due("n -1", x.trace(0, 3, -1), Due.BEYOND);
        Due.due("missing ahead of odd", x.trace(0, 2, 3), Due.NONE);
        Due.due("odd ahead of too many", x.trace(0, 3, 5), Due.STATE);
        Due.due("not so many", x.trace(0, 3, 4), Due.BEYOND);
        Due.due("what 2", x.reading(0, 0, 2), Due.BEYOND);
        Due.due("what -1", x.reading(0, 0, -1), Due.BEYOND);
        Due.due("reading 3", x.reading(0, 3, 0), Due.BEYOND);
        Due.due("reading -1", x.reading(0, -1, 0), Due.BEYOND);
        Due.due("of piece 1", x.reading(1, 0, 0), Due.BEYOND);
        Due.due("none", x.trace(0, 3, 0), 0);
        Due.due("no readings", x.count(7), 0);
        int[] all = new int[24];
        for (int i = 0; i < 24; i++) {
            all[i] = i;
        }
        Due.due("twelve", Due.trace(x, 0, all), 12);
    }
}
