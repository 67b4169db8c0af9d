/** Images, numbers that wait, checks, counts and what is told (promises 37 to 42) at their edges. */
public final class ImageEdgesTest {
    public static void main(String[] args) {
        howOften();
        inPlaceOfOneAhead();
        eachThingByItself();
        whatStays();
        anImageOfNothing();
        anImageOfAFullHouse();
        fortyEight();
        theFirstThatIsnt();
        lacksOrIsTooMany();
        nothingChanges();
        noneWaitThen();
        counts();
        told();
        toldInLongs();
        Due.finish();
    }

    /** How often that was done; it isn't restored. */
    private static void howOften() {
        StrengthHouse x = new StrengthHouse();
        Due.due("none", x.restore(), Due.NONE);
        for (int i = 1; i <= 5; i++) {
            Due.due("image", x.image(), i);
            Due.due("restore", x.restore(), 0);
            Due.due("restore", x.restore(), 0);
        }
        Due.due("told", x.told(2), 1);
    }

    /** In place of one ahead; the IMAGE stays. */
    private static void inPlaceOfOneAhead() {
        StrengthHouse x = new StrengthHouse();
        for (int i = 1; i <= 3; i++) {
            Due.piece(x, i, i, 10 * i, 1, 2);
            Due.due("image", x.image(), i);
            Due.piece(x, 0, 0, 99, 1, 2);
            Due.due("more than in the image", x.count(0), i + 1);
            Due.due("restore", x.restore(), i);
            Due.due("again", x.restore(), i);
            Due.due("its last piece", x.pieceIs(i - 1, 2), 10 * i);
            Due.due("no more", x.pieceIs(i, 2), Due.BEYOND);
        }
    }

    /** One thing is changed behind the image at a time: all is as the image has it. */
    private static void eachThingByItself() {
        Twins.Call[] changes = {
            x -> x.piece(0, 0, 1, 0, 2), x -> x.trace(0, 1, 2), x -> x.trace(1, 1, 0), x -> x.limit(0, 7),
            x -> x.limit(1, 7), x -> x.limit(2, 7), x -> x.limit(3, 7), x -> x.limit(4, 5), x -> x.feed(';', 1),
            x -> x.program(0), x -> x.program(2), x -> x.run(0, 2), x -> x.run(1, 1), x -> x.prove(3, 2, 302, 7),
            x -> x.prove(3, 1, 303, 7), x -> x.prove(3, 1, 402, 7), x -> x.prove(3, 1, 302, 8), x -> x.prove(5, 4, 101, 1),
            x -> x.enter(0, 0, 0), x -> x.back(1, 3), x -> x.tell(5), x -> x.check(0, 0), x -> x.check(3, 3),
            x -> x.restore(), x -> otherTape(x), x -> otherNumbers(x)};
        for (int i = 0; i < changes.length; i++) {
            Twins.Call change = changes[i];
            Twins.alike("change " + i, Twins::house, x -> changed(x, change), x -> x.image());
        }
    }

    /** As many bytes as there were, but others. */
    private static long otherTape(StrengthHouse x) {
        x.program(2);
        Due.feed(x, "go 1;go 5");
        return x.count(4);
    }

    /** As many numbers as waited, but others. */
    private static long otherNumbers(StrengthHouse x) {
        x.check(0, 0);
        for (int i = 0; i < 4; i++) {
            x.tell(77);
        }
        return x.count(5);
    }

    private static long changed(StrengthHouse x, Twins.Call change) {
        x.image();
        change.on(x);
        return x.restore();
    }

    /** But SHEETS, THE TRACE, what told() tells, and how often this was done. */
    private static void whatStays() {
        StrengthHouse x = new StrengthHouse();
        Twins.house(x);
        Twins.numbers(x, 2, 32, 1, 2);
        Due.due("image", x.image(), 2);
        Due.due("a sheet is missing", x.sheet(2, 0, 0), 1);
        Due.due("a number", x.put(0, 0, 77), 1);
        Due.due("a voice", x.voice(0, 0, 1), 11);
        int ahead = x.told(1);
        Due.due("an error", x.as(99, 0), Due.BEYOND);
        Due.due("restore", x.restore(), 3);
        Due.due("still missing", x.put(2, 0, 0), Due.NONE);
        Due.due("one body", x.count(6), 1);
        Due.due("its number", x.body(0), 10);
        Due.due("told", x.told(1), ahead + 1);
        Due.due("the number", x.piece(0, 0, 10, 0, 2), 3);
        Due.due("the number", x.answer(3, 0), 77);
        Due.due("image", x.image(), 3);
    }

    private static void anImageOfNothing() {
        StrengthHouse x = new StrengthHouse();
        Due.due("image", x.image(), 1);
        Twins.numbers(x, 0, 16, 0, 50, 90);
        x.piece(3, 1, 10, 0, 3);
        Due.program(x, 0, "go 5;read");
        x.run(0, 0);
        x.enter(1, 0, 0);
        x.limit(0, 5);
        x.prove(1, 0, 201, 5);
        x.tell(1);
        Due.feed(x, "re");
        Due.due("restore", x.restore(), 0);
        for (int what = 0; what < 8; what++) {
            Due.due("count " + what, x.count(what), 0);
        }
        Due.due("no run", x.ran(0), Due.NONE);
        Due.due("limit", x.limit(0, 5), 99999);
        Due.due("led", x.led(1, 10, 0), 10);
        Due.due("doubt", x.led(1, 10, 1), 0);
        Due.due("entry 0 anew", x.piece(0, 2, 10, 0, 2), 0);
        Due.due("a new piece", x.pieceIs(0, 3), 2);
        Due.due("without readings", x.pieceIs(0, 4), 0);
        Due.due("no program", x.run(0, 0), Due.NONE);
        Due.due("no number", x.enter(2, 0, 0), Due.NONE);
    }

    private static void anImageOfAFullHouse() {
        StrengthHouse x = new StrengthHouse();
        Twins.numbers(x, 0, 16, 10, 50, 90);
        for (int i = 0; i < 14; i++) {
            x.piece(i % 6, i % 4, i + 1, 0, 3);
        }
        Due.trace(x, 13, 1, 2, 3, 4);
        for (int i = 0; i < 20; i++) {
            x.enter(1, 0, i % 6);
        }
        for (int i = 0; i < 48; i++) {
            x.tell(i);
        }
        for (int i = 0; i < 8; i++) {
            x.feed(-1L, 8);
        }
        Due.due("image", x.image(), 1);
        x.check(0, 0);
        x.program(0);
        Due.trace(x, 13, 9, 9);
        x.back(18, 19);
        Due.due("restore", x.restore(), 14);
        int[] want = {14, 20, 0, 0, 64, 48, 0, 2};
        for (int what = 0; what < 8; what++) {
            Due.due("count " + what, x.count(what), want[what]);
        }
        Due.due("full", x.piece(0, 0, 1, 0, 2), Due.FULL);
        Due.due("full", x.enter(1, 0, 0), Due.FULL);
        Due.due("full", x.tell(0), Due.FULL);
        Due.due("full", x.feed(0, 1), Due.FULL);
        Due.same("readings", Due.readings(x, 13), "1:2 3:4");
    }

    /** FULL: 48 wait. */
    private static void fortyEight() {
        StrengthHouse x = new StrengthHouse();
        for (int i = 1; i <= 48; i++) {
            Due.due("how many", x.tell(Integer.MIN_VALUE), i);
            Due.due("how many", x.count(5), i);
        }
        Due.due("a forty-ninth", x.tell(1), Due.FULL);
        Due.due("48", x.count(5), 48);
        Due.due("they wait no more", x.check(0, 0), Due.BEYOND);
        Due.due("1", x.tell(1), 1);
    }

    private static StrengthHouse withRun(String text) {
        StrengthHouse x = new StrengthHouse();
        Due.piece(x, 0, 0, 10, 0, 10, 20);
        Due.program(x, 0, text);
        return x;
    }

    private static int check(StrengthHouse x, int... numbers) {
        for (int v : numbers) {
            x.tell(v);
        }
        Due.due("they wait", x.count(5), numbers.length);
        int answered = x.check(0, 0);
        Due.due("none waits", x.count(5), 0);
        return answered;
    }

    /** 1 and the place (from 0 on) of the first that isn't. */
    private static void theFirstThatIsnt() {
        StrengthHouse x = withRun("go 5;read;go 4;read;go 3;read");
        int[] good = {5, 5, 9, 9, 12, 12};
        Due.due("as they are", check(x, good), 0);
        for (int i = 0; i < 6; i++) {
            for (int more : new int[] {-1, 1, 1 << 31, Integer.MAX_VALUE}) {
                int[] bad = good.clone();
                bad[i] += more;
                Due.due("number " + i + " isn't", check(x, bad), i + 1);
                bad[5] = -7;
                Due.due("number " + i + " is the first", check(x, bad), i + 1);
            }
        }
        Due.due("as they are", check(x, good), 0);
    }

    /** One that lacks, or is too many, too. */
    private static void lacksOrIsTooMany() {
        StrengthHouse x = withRun("go 5;read;go 4;read");
        int[] numbers = {5, 5, 9, 9, 9, 9, 9};
        int[] want = {1, 2, 3, 4, 0, 5, 5, 5};
        for (int n = 0; n <= 7; n++) {
            Due.due(n + " of 4", check(x, java.util.Arrays.copyOf(numbers, n)), want[n]);
        }
        Due.due("one isn't, and one lacks", check(x, 5, 6, 9), 2);
        Due.due("one isn't, and one is too many", check(x, 5, 5, 9, 8, 1), 4);
        StrengthHouse none = withRun("go 5");
        Due.due("none of none", check(none), 0);
        Due.due("one of none", check(none, 0), 1);
        int[] most = new int[48];
        Due.due("48 of none", check(none, most), 1);
        StrengthHouse many = withRun("read;read;read;read;read;read;read;read;read;read;read;read;read");
        Due.due("26 of 26", check(many, new int[26]), 0);
        Due.due("25 of 26", check(many, new int[25]), 26);
        Due.due("27 of 26", check(many, new int[27]), 27);
        Due.due("48 of 26", check(many, most), 27);
    }

    /** Nothing changes but that none wait: no READINGS, no latest RUN. */
    private static void nothingChanges() {
        Twins.alike("one that is right, one that isn't", Twins::house, x -> x.check(0, 0), x -> x.check(1, 1));
        StrengthHouse x = withRun("go 5;read;last go 50,read");
        Due.due("check", check(x, 5, 5, 55, 0), 0);
        Due.due("no RUN", x.ran(0), Due.NONE);
        Due.due("no READINGS", x.count(7), 0);
        Due.due("run", x.run(0, 0), 0);
        Due.program(x, 0, "go 7;go 99");
        Due.due("one that breaks", check(x), 0);
        Due.due("the latest RUN", x.ran(1), 5 + 1 + 50 + 1);
        Due.same("READINGS", Due.readings(x, 0), "5:5 55:0");
    }

    /** BEYOND, NONE: none wait then, too, in both. */
    private static void noneWaitThen() {
        StrengthHouse x = withRun("read");
        int[][] calls = {{-1, 0}, {4, 0}, {0, -1}, {0, 1}, {1, 1}, {1, 0}, {3, 0}};
        for (int[] c : calls) {
            x.tell(1);
            x.tell(2);
            boolean isBeyond = c[0] < 0 || c[0] > 3 || c[1] != 0;
            Due.due("check " + c[0] + " " + c[1], x.check(c[0], c[1]), isBeyond ? Due.BEYOND : Due.NONE);
            Due.due("none wait", x.count(5), 0);
            Due.due("the first one again", x.tell(0), 1);
            Due.due("and its load", x.tell(0), 2);
            Due.due("as they are", x.check(0, 0), 0);
        }
        Due.due("told", x.told(1), 5);
        Due.due("told", x.told(2), 2);
    }

    /** What is 0 .. 7. */
    private static void counts() {
        StrengthHouse x = new StrengthHouse();
        Twins.house(x);
        int[] want = {3, 4, 1, 2, 9, 4, 9, 6};
        Due.due("-1", x.count(-1), Due.BEYOND);
        for (int what = 0; what < 8; what++) {
            Due.due("count " + what, x.count(what), want[what]);
        }
        Due.due("8", x.count(8), Due.BEYOND);
    }

    /** K 1 .. 6; BEYOND: another k (counted, too). */
    private static void told() {
        StrengthHouse x = new StrengthHouse();
        Due.due("-1", x.told(-1), Due.BEYOND);
        Due.due("0", x.told(0), Due.BEYOND);
        Due.due("1", x.told(1), 2);
        for (int k = 2; k <= 6; k++) {
            Due.due("" + k, x.told(k), 0);
        }
        Due.due("7", x.told(7), Due.BEYOND);
        Due.due("the least int", x.told(Integer.MIN_VALUE), Due.BEYOND);
        Due.due("1", x.told(1), 4);
        Due.due("asking counts nothing", x.told(1), 4);
        // An answer that only looks like an ERROR isn't one, nor is a FAULT.
        Due.piece(x, 0, 0, 1, 1, 2);
        Due.due("a voice", x.voice(0, 0, -1000003), -1000002);
        Due.due("a fault", Due.program(x, 0, "no"), -10);
        Due.due("1", x.told(1), 4);
        Due.due("2", x.told(2), 0);
    }

    /** In longs likewise. */
    private static void toldInLongs() {
        StrengthHouse x = new StrengthHouse();
        Due.due("spent", x.spent(0, 0), -1000001L);
        Due.due("told", x.told(1), 1);
    }
}
