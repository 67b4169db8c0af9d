/**
 * Two houses that are made alike. One is asked something; then all that can be seen of both is looked
 * at, to the last number, and may differ in nothing but what the document names.
 */
final class Twins {
    private static final int LOW = -1000000;

    private Twins() {
    }

    interface Setup {
        void make(StrengthHouse x);
    }

    interface Call {
        long on(StrengthHouse x);
    }

    /** A call that answers the ERROR LOW - k changes nothing but told(k), by one. */
    static void refused(String what, Setup setup, Call call, int k) {
        asked(what, setup, call, LOW - k, k);
    }

    /** A call that answers v and changes nothing at all. */
    static void tells(String what, Setup setup, Call call, long v) {
        asked(what, setup, call, v, 0);
    }

    private static void asked(String what, Setup setup, Call call, long want, int k) {
        StrengthHouse x = new StrengthHouse();
        StrengthHouse twin = new StrengthHouse();
        setup.make(x);
        setup.make(twin);
        int[] ahead = told(x);
        Due.due(what, call.on(x), want);
        int[] then = told(x);
        for (int j = 1; j <= 6; j++) {
            Due.due(what + ": told " + j, then[j] - ahead[j], j == k ? 1 : 0);
        }
        Due.same(what + ": the house", all(x), all(twin));
    }

    /** Both calls, each on a house of its own, leave the same behind. */
    static void alike(String what, Setup setup, Call call, Call other) {
        StrengthHouse x = new StrengthHouse();
        StrengthHouse twin = new StrengthHouse();
        setup.make(x);
        setup.make(twin);
        call.on(x);
        other.on(twin);
        Due.same(what, all(x), all(twin));
    }

    private static int[] told(StrengthHouse x) {
        int[] told = new int[7];
        for (int k = 1; k <= 6; k++) {
            told[k] = x.told(k);
        }
        return told;
    }

    static void numbers(StrengthHouse x, int sheet, int bits, int... numbers) {
        x.sheet(sheet, bits, numbers.length);
        for (int i = 0; i < numbers.length; i++) {
            x.put(sheet, i, numbers[i]);
        }
    }

    /** A house that has some of everything, in which the image isn't what is there now. Sheet 2 is missing. */
    static void house(StrengthHouse x) {
        numbers(x, 0, 16, 0, 50, 90);
        numbers(x, 1, 8, 5, 10, 20, 30);
        numbers(x, 3, 32, 7, 99999, 10000, -1);
        x.piece(0, 0, 10, 0, 3);
        x.piece(3, 1, 20, 0, 3);
        x.piece(5, 0, 2, 1, 4);
        Due.program(x, 0, "go 5;read;hold 5;read");
        Due.program(x, 1, "read;go 9;read;last back 2,read");
        x.limit(0, 5000);
        x.limit(1, 500);
        x.limit(2, 60);
        x.limit(3, 3);
        x.limit(4, 1);
        x.run(0, 1);
        x.run(1, 0);
        x.trace(2, 1, 4);
        x.prove(3, 1, 302, 7);
        x.prove(1, 0, 205, 9);
        x.enter(0, 0, 3);
        x.enter(0, 0, 1);
        x.enter(1, 3, 2);
        x.enter(0, 0, 4);
        x.back(0, 1);
        x.voice(1, 2, 7);
        x.image();
        x.trace(2, 1, 2);
        x.limit(4, 2);
        Due.feed(x, "read;go 3");
        // What program 0 reads of piece 0, two ticks behind.
        for (int v : new int[] {5, 20, 5, 25}) {
            x.tell(v);
        }
    }

    /** All that can be seen; what can be seen only once is used up by it. */
    static String all(StrengthHouse x) {
        StringBuilder seen = new StringBuilder();
        lookAtPieces(x, seen);
        lookAtBook(x, seen);
        seen.append("\nnumbers that wait ").append(x.check(0, 0));
        for (int sheet = 0; sheet < 4; sheet++) {
            useUpSheet(x, sheet, seen);
        }
        for (int program = 0; program < 4; program++) {
            useUpProgram(x, program, seen);
        }
        seen.append("\ntape ").append(x.program(3));
        useUpProgram(x, 3, seen);
        seen.append("\nlimits");
        for (int what = 0; what < 5; what++) {
            seen.append(' ').append(x.limit(what, 0));
        }
        seen.append("\nimage ").append(x.restore());
        lookAtImage(x, seen);
        return seen.append(x.image()).toString();
    }

    private static void lookAtPieces(StrengthHouse x, StringBuilder seen) {
        seen.append("\ncounts");
        for (int what = 0; what < 8; what++) {
            seen.append(' ').append(x.count(what));
        }
        seen.append("\nrun");
        for (int what = 0; what < 4; what++) {
            seen.append(' ').append(x.ran(what));
        }
        seen.append("\nbodies");
        for (int i = 0; i <= x.count(6); i++) {
            seen.append(' ').append(x.body(i));
        }
        for (int piece = 0; piece < x.count(0); piece++) {
            seen.append("\npiece");
            for (int what = 0; what < 4; what++) {
                seen.append(' ').append(x.pieceIs(piece, what));
            }
            seen.append(' ').append(x.answer(piece, 9)).append(' ').append(x.answer(piece, 20));
            seen.append(' ').append(Due.readings(x, piece));
        }
    }

    private static void lookAtBook(StrengthHouse x, StringBuilder seen) {
        for (int entry = 0; entry < x.count(1); entry++) {
            seen.append("\nentry");
            for (int what = 0; what < 4; what++) {
                seen.append(' ').append(x.entryIs(entry, what));
            }
        }
        seen.append("\nbook ").append(x.book(0, 0)).append(' ').append(x.book(1, 3)).append("\nmeters");
        for (int meter = 0; meter < 6; meter++) {
            seen.append(' ').append(x.led(meter, 1000, 0)).append(' ').append(x.led(meter, 0, 1));
            seen.append(' ').append(x.hangs(meter));
        }
    }

    private static void useUpSheet(StrengthHouse x, int sheet, StringBuilder seen) {
        seen.append("\nsheet ");
        int n = 0;
        while (x.move(sheet, n, sheet, n, 1) == 1) {
            n++;
        }
        seen.append(n).append(' ').append(x.move(sheet, 0, sheet, 0, 0)).append(' ').append(x.trace(0, sheet, 2));
        seen.append(' ').append(x.reading(0, 0, 0)).append(' ').append(x.reading(0, 0, 1));
        x.put(sheet, 0, 0);
        for (int i = 2; i < n; i++) {
            x.move(sheet, i, sheet, 1, 1);
            seen.append(' ').append(x.trace(0, sheet, 2)).append(' ').append(x.reading(0, 0, 1));
        }
        // 40000 is 64 in 8 bits, no load in 16, and itself in 32.
        x.put(sheet, 1, 40000);
        seen.append(" bits ").append(x.trace(0, sheet, 2)).append(' ').append(x.reading(0, 0, 1));
    }

    private static void useUpProgram(StrengthHouse x, int program, StringBuilder seen) {
        seen.append("\nprogram ").append(x.run(program, 1)).append(' ').append(x.ran(1)).append(' ');
        seen.append(x.ran(2)).append(' ').append(x.ran(3)).append(' ').append(Due.readings(x, 1));
    }

    private static void lookAtImage(StrengthHouse x, StringBuilder seen) {
        for (int what = 0; what < 8; what++) {
            seen.append(' ').append(x.count(what));
        }
        for (int piece = 0; piece < 3; piece++) {
            seen.append(' ').append(Due.readings(x, piece));
        }
        seen.append(' ').append(x.ran(1)).append(' ').append(x.entryIs(0, 3)).append(' ').append(x.led(3, 1000, 0));
        for (int what = 0; what < 5; what++) {
            seen.append(' ').append(x.limit(what, 0));
        }
        seen.append(" how often ");
    }
}
