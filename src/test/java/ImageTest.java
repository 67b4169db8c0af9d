/** Promises 37 and 38. */
public final class ImageTest {
    public static void main(String[] args) {
        images();
        whatIsKept();
        numbersThatWait();
        whatIsNotKept();
        Due.finish();
    }

    private static void images() {
        StrengthHouse x = new StrengthHouse();
        Due.due("none", x.restore(), Due.NONE);
        Due.due("image", x.image(), 1);
        Due.piece(x, 0, 0, 10, 1, 2);
        Due.due("image", x.image(), 2);
        Due.piece(x, 1, 0, 10, 1, 2);
        Due.due("restore", x.restore(), 1);
        Due.piece(x, 2, 0, 11, 1, 2);
        Due.due("it stays", x.restore(), 1);
        Due.due("piece 1 is away", x.pieceIs(1, 0), Due.BEYOND);
        Due.piece(x, 1, 0, 10, 1, 2);
        Due.trace(x, 1, 3, 4);
        x.restore();
        Due.piece(x, 4, 3, 10, 1, 2, 3);
        Due.due("another piece 1", x.pieceIs(1, 0), 4);
        Due.due("without readings", x.pieceIs(1, 4), 0);
        Due.program(x, 0, "read");
        x.run(0, 0);
        x.restore();
        Due.due("no run", x.ran(0), Due.NONE);
        Due.due("no program", x.run(0, 0), Due.NONE);
        Due.due("in place of one ahead", x.image(), 3);
    }

    private static StrengthHouse full() {
        StrengthHouse x = new StrengthHouse();
        Due.piece(x, 3, 1, 12, 0, 50, 90);
        Due.program(x, 2, "go 7;read;go 3;read;last hold 2");
        x.limit(0, 5000);
        x.limit(1, 500);
        x.limit(2, 50);
        x.limit(3, 7);
        x.limit(4, 1);
        x.run(2, 0);
        x.prove(4, 2, 305, 6);
        x.enter(1, 0, 4);
        x.enter(1, 0, 2);
        x.back(0, 1);
        Due.feed(x, "read;go ");
        x.tell(11);
        x.tell(22);
        return x;
    }

    private static void change(StrengthHouse x) {
        Due.piece(x, 0, 1, 10, 70, 80, 90);
        Due.trace(x, 0, 1, 2, 3, 4, 5, 6);
        x.program(1);
        Due.program(x, 2, "read");
        Due.program(x, 3, "read;read");
        x.limit(0, 1);
        x.limit(1, 1);
        x.limit(2, 1);
        x.limit(3, 1);
        x.limit(4, 5);
        x.run(3, 1);
        x.prove(4, 1, 101, 0);
        x.enter(1, 0, 1);
        x.back(1, 2);
        x.tell(33);
    }

    private static String state(StrengthHouse x) {
        StringBuilder text = new StringBuilder();
        for (int what : new int[] {0, 1, 2, 3, 4, 5, 7}) {
            text.append(x.count(what)).append(' ');
        }
        for (int what = 0; what < 6; what++) {
            text.append(x.pieceIs(0, what)).append(' ');
        }
        for (int what = 0; what < 4; what++) {
            text.append(x.ran(what)).append(' ').append(x.entryIs(0, what)).append(' ');
            text.append(x.entryIs(1, what)).append(' ');
        }
        text.append(x.led(4, 1000, 0)).append(' ').append(x.led(4, 0, 1)).append(' ').append(x.hangs(2));
        text.append(' ').append(x.answer(0, 15)).append(' ').append(Due.readings(x, 0));
        return text.toString();
    }

    private static void whatIsKept() {
        StrengthHouse x = full();
        StrengthHouse y = full();
        x.image();
        change(x);
        Due.due("restore", x.restore(), 1);
        Due.same("state", state(x), state(y));
        int[] limits = {5000, 500, 50, 7, 1};
        for (int what = 0; what < 5; what++) {
            Due.due("limit " + what, x.limit(what, limits[what]), limits[what]);
        }
        Due.due("numbers that wait", x.check(2, 0), y.check(2, 0));
        Due.due("a run", x.run(2, 0), y.run(2, 0));
        Due.same("state", state(x), state(y));
        Due.feed(x, "3");
        Due.due("the tape", x.program(0), 2);
        change(x);
        x.restore();
        Due.due("it stays as it was", x.count(4), 8);
        Due.same("state", state(x), state(full()));
    }

    private static void numbersThatWait() {
        StrengthHouse x = new StrengthHouse();
        Due.piece(x, 0, 0, 10, 0, 10);
        Due.program(x, 0, "go 5;read");
        x.tell(5);
        x.tell(5);
        x.image();
        Due.due("check", x.check(0, 0), 0);
        x.tell(1);
        x.tell(2);
        x.tell(3);
        x.restore();
        Due.due("they wait again", x.check(0, 0), 0);
    }

    private static void whatIsNotKept() {
        StrengthHouse x = new StrengthHouse();
        Due.piece(x, 0, 0, 10, 1, 2);
        x.voice(0, 0, 1);
        x.image();
        x.sheet(1, 8, 5);
        x.voice(0, 2, 1);
        x.told(9);
        x.image();
        x.told(9);
        x.restore();
        Due.due("told", x.told(1), 2);
        Due.due("the trace", x.count(6), 3);
        Due.due("sheets", x.put(1, 4, 5), 1);
        Due.due("how often", x.image(), 3);
    }
}
