/** Counts the answers that are not as due; each test ends with finish(). */
final class Due {
    static final int BEYOND = -1000001;
    static final int NONE = -1000002;
    static final int STATE = -1000003;
    static final int FULL = -1000004;
    static final int KIND = -1000005;
    static final int PARTED = -1000006;

    private static int wrong = 0;

    private Due() {
    }

    static void due(String what, long got, long want) {
        if (got != want) {
            wrong++;
            System.out.println(what + " answered " + got + ", due is " + want);
        }
    }

    static void finish() {
        System.out.println(wrong == 0 ? "all answers are as due" : wrong + " answers are not as due");
        if (wrong != 0) {
            System.exit(1);
        }
    }

    /** A sheet of 32 bits with these numbers. */
    static void row(StrengthHouse x, int sheet, int... numbers) {
        due("sheet", x.sheet(sheet, 32, numbers.length), 1);
        for (int i = 0; i < numbers.length; i++) {
            due("put", x.put(sheet, i, numbers[i]), 1);
        }
    }

    /** A piece with these answers; sheet 3 is used. */
    static int piece(StrengthHouse x, int kind, int lot, int size, int... answers) {
        row(x, 3, answers);
        return x.piece(kind, lot, size, 3, answers.length);
    }

    /** The readings of a piece; sheet 3 is used. */
    static int trace(StrengthHouse x, int piece, int... readings) {
        row(x, 3, readings);
        return x.trace(piece, 3, readings.length);
    }

    static void feed(StrengthHouse x, String text) {
        for (int i = 0; i < text.length(); i += 8) {
            int n = Math.min(8, text.length() - i);
            long word = 0;
            for (int k = 0; k < n; k++) {
                word |= (text.charAt(i + k) & 0xFFL) << (8 * k);
            }
            x.feed(word, n);
        }
    }

    static int program(StrengthHouse x, int program, String text) {
        feed(x, text);
        return x.program(program);
    }

    /** The readings of a piece as a text: stretch:load, by blanks. */
    static String readings(StrengthHouse x, int piece) {
        StringBuilder text = new StringBuilder();
        for (int i = 0; i < x.pieceIs(piece, 4); i++) {
            text.append(i == 0 ? "" : " ").append(x.reading(piece, i, 0));
            text.append(':').append(x.reading(piece, i, 1));
        }
        return text.toString();
    }

    static void same(String what, String got, String want) {
        if (!got.equals(want)) {
            wrong++;
            System.out.println(what + " was [" + got + "], due is [" + want + "]");
        }
    }
}
