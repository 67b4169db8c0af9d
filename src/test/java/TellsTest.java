/** Acts that only tell: they answer what is there and change nothing, not even what told() tells. */
public final class TellsTest {
    public static void main(String[] args) {
        pieces();
        laws();
        lots();
        theBook();
        plans();
        theRest();
        actsThatChangeAnswerNoError();
        Due.finish();
    }

    private static void is(String what, Twins.Call call, long want) {
        Twins.tells(what, Twins::house, call, want);
    }

    private static void pieces() {
        is("pieceIs", x -> x.pieceIs(1, 0), 3);
        is("as", x -> x.as(1, 1), 20);
        is("as", x -> x.as(1, 3), 20);
        is("answer", x -> x.answer(1, 9), 90);
        is("answer, behind the last", x -> x.answer(1, 999), 0);
        is("reading, stretch", x -> x.reading(0, 1, 0), 9);
        is("reading, load", x -> x.reading(0, 1, 1), 45);
        is("reading, NONE", x -> x.reading(0, 2, 1), -1);
        is("ran", x -> x.ran(3), 3);
    }

    private static void laws() {
        is("line", x -> x.line(0, 1), 1);
        is("line", x -> x.line(0, 2), 2);
        is("top", x -> x.top(0), 45);
        is("spent", x -> x.spent(0, 2), 405);
        is("number", x -> x.number(0, 3), 405);
        is("curve", x -> x.curve(0, 4, 1), 20);
        is("curve", x -> x.curve(0, 10, 3), 0);
        is("curve", x -> x.curve(3, 4, 3), 0);
        Twins.Setup traced = x -> {
            Twins.house(x);
            Due.trace(x, 0, 0, 0, 10, 100, 20, 200, 30, 250, 40, 100);
        };
        Twins.tells("yields", traced, x -> x.yields(0, 49), 3);
        Twins.tells("breaks", traced, x -> x.breaks(0, 20), 4);
    }

    private static void lots() {
        Twins.Setup three = x -> {
            Twins.house(x);
            Due.piece(x, 0, 0, 10, 1, 2);
            Due.trace(x, 3, 0, 900);
        };
        Twins.tells("odd", three, x -> x.odd(0, 0, 50), 3);
        Twins.tells("sure", three, x -> x.sure(0, 0, 5, 5), 45);
        is("few", x -> x.few(9, 7), 12);
    }

    private static void theBook() {
        is("led", x -> x.led(3, 10, 0), 6);
        is("led, DOUBT", x -> x.led(3, 10, 1), 7 * 3 / 2 * 2 / 5 + 9 * 2 / 5);
        is("entryIs", x -> x.entryIs(0, 3), 1);
        is("book", x -> x.book(0, 0), 3);
        is("hangs", x -> x.hangs(1), 0b0011);
    }

    private static void plans() {
        is("plates", x -> x.plates(1, 4, 35), 2);
        is("plates", x -> x.plates(1, 0, 1), 0);
        is("drift", x -> x.drift(7), new StrengthHouse().drift(7));
    }

    private static void theRest() {
        is("body", x -> x.body(8), 10);
        for (int what = 0; what < 8; what++) {
            int w = what;
            int[] want = {3, 4, 1, 2, 9, 4, 9, 6};
            is("count " + w, x -> x.count(w), want[w]);
        }
        is("told", x -> x.told(3), 0);
        is("move of nothing", x -> x.move(1, 0, 1, 4, 0), 0);
        is("move to where they are", x -> x.move(1, 1, 1, 1, 3), 3);
        is("put of what is there", x -> x.put(1, 3, 30), 1);
        is("limit, as it is", x -> x.limit(4, 2), 2);
    }

    /** Those that change something tell no ERROR either. */
    private static void actsThatChangeAnswerNoError() {
        StrengthHouse x = new StrengthHouse();
        Twins.house(x);
        for (int k = 1; k <= 6; k++) {
            Due.due("told " + k, x.told(k), 0);
        }
    }
}
