/** Promises 23 to 29. */
public final class MeterTest {
    public static void main(String[] args) {
        proving();
        leading();
        entering();
        takingBack();
        hanging();
        Due.finish();
    }

    private static void proving() {
        StrengthHouse x = new StrengthHouse();
        int[][] beyond = {{0, 0, 101, 0}, {6, 0, 101, 0}, {-1, 0, 101, 0}, {2, -1, 101, 0}, {2, 6, 101, 0},
            {2, 1, 1, 0}, {2, 1, 100, 0}, {2, 1, 10001, 0}, {2, 1, 0, 0}, {2, 1, -101, 0},
            {2, 1, 101, -1}, {2, 1, 101, 100}, {2, 3, 101, 100}, {2, 1, Integer.MIN_VALUE, 0}};
        for (int[] b : beyond) {
            Due.due("beyond", x.prove(b[0], b[1], b[2], b[3]), Due.BEYOND);
        }
        Due.due("itself", x.prove(2, 2, 101, 0), Due.STATE);
        Due.due("a greater one", x.prove(2, 5, 101, 0), Due.STATE);
        Due.due("nothing changed", x.led(2, 100, 0), 100);
        Due.due("prove", x.prove(2, 1, 9901, 99), 1);
        Due.due("prove", x.prove(2, 0, 199, 0), 1);
        Due.due("led", x.led(2, 100, 0), 1);
    }

    private static void leading() {
        StrengthHouse x = new StrengthHouse();
        for (int meter = 0; meter < 6; meter++) {
            Due.due("at first", x.led(meter, 99999, 0), 99999);
            Due.due("at first", x.led(meter, 99999, 1), 0);
        }
        x.prove(1, 0, 203, 5);
        x.prove(3, 1, 702, 9);
        x.prove(5, 3, 110, 50);
        Due.due("cut at each step", x.led(5, 99, 0), 9 * 7 / 2 * 2 / 3);
        Due.due("doubt", x.led(5, 99, 1), (5 * 7 / 2 * 2 / 3) + (9 * 7 / 2 * 2 / 3) + (5 * 2 / 3));
        Due.due("doubt of 3", x.led(3, 0, 1), (9 * 7 / 2 * 2 / 3) + (5 * 2 / 3));
        Due.due("others stand by themselves", x.led(4, 99, 0), 99);
        for (int meter = 1; meter < 6; meter++) {
            x.prove(meter, meter - 1, 9901, 99);
        }
        Due.due("much", x.led(2, 99999, 0), 99999 * 9801);
        Due.due("2000000000 at most", x.led(3, 99999, 0), 2000000000);
        Due.due("2000000000 at most", x.led(5, 99999, 0), 2000000000);
        Due.due("2000000000 at most", x.led(5, 0, 1), 2000000000);
        x.prove(1, 0, 199, 0);
        Due.due("at each step", x.led(5, 99999, 0), 2000000000 / 99);
        Due.due("meter 6", x.led(6, 0, 0), Due.BEYOND);
        Due.due("meter -1", x.led(-1, 0, 0), Due.BEYOND);
        Due.due("v -1", x.led(0, -1, 0), Due.BEYOND);
        Due.due("v 100000", x.led(0, 100000, 1), Due.BEYOND);
        Due.due("what 2", x.led(0, 0, 2), Due.BEYOND);
        Due.due("what -1", x.led(0, 0, -1), Due.BEYOND);
    }

    private static StrengthHouse withPieces() {
        StrengthHouse x = new StrengthHouse();
        for (int i = 0; i < 5; i++) {
            Due.piece(x, 0, i == 3 ? 2 : 1, 10, 1, 2);
        }
        Due.trace(x, 0, 1, 50, 2, 10);
        Due.trace(x, 1, 1, -1);
        Due.trace(x, 2, 1, 70, 2, 70);
        Due.trace(x, 3, 1, 900);
        Due.trace(x, 4, 1, 60, 2, 60);
        return x;
    }

    private static void entering() {
        StrengthHouse x = withPieces();
        Due.due("none", x.enter(0, 0, 0), Due.NONE);
        Due.due("enter", x.enter(1, 0, 4), 0);
        entryIs(x, 0, 70, 0b10101, 4, Due.NONE);
        Due.due("by another law", x.enter(1, 2, 0), 1);
        entryIs(x, 1, 2, 0b00001, 0, Due.NONE);
        Due.due("of another lot", x.enter(2, 0, 5), 2);
        entryIs(x, 2, 900, 0b01000, 5, Due.NONE);
        Due.trace(x, 2, 1, 3);
        entryIs(x, 0, 70, 0b10101, 4, Due.NONE);
        Due.due("none by a law", x.enter(2, 2, 0), Due.NONE);
        Due.due("lot 4", x.enter(4, 0, 0), Due.BEYOND);
        Due.due("law 4", x.enter(1, 4, 0), Due.BEYOND);
        Due.due("meter 6", x.enter(1, 0, 6), Due.BEYOND);
        Due.due("meter -1", x.enter(1, 0, -1), Due.BEYOND);
        Due.due("entry 3", x.entryIs(3, 0), Due.BEYOND);
        Due.due("entry -1", x.entryIs(-1, 0), Due.BEYOND);
        Due.due("what 4", x.entryIs(0, 4), Due.BEYOND);
        Due.due("what -1", x.entryIs(0, -1), Due.BEYOND);
        for (int i = 3; i < 20; i++) {
            Due.due("enter", x.enter(1, 0, 1), i);
        }
        Due.due("full", x.enter(1, 0, 1), Due.FULL);
        Due.due("none ahead of full", x.enter(0, 0, 1), Due.NONE);
        Due.due("count", x.count(1), 20);
        Due.due("latest", x.book(1, 0), 19);
        Due.due("hangs", x.hangs(0), (1 << 20) - 1);
    }

    private static void entryIs(StrengthHouse x, int entry, int greatest, int pieces, int meter, int by) {
        Due.due("greatest", x.entryIs(entry, 0), greatest);
        Due.due("pieces", x.entryIs(entry, 1), pieces);
        Due.due("meter", x.entryIs(entry, 2), meter);
        Due.due("taken back by", x.entryIs(entry, 3), by);
    }

    private static void takingBack() {
        StrengthHouse x = withPieces();
        x.enter(1, 0, 0);
        x.enter(1, 0, 0);
        x.enter(1, 3, 0);
        x.enter(2, 0, 0);
        x.enter(1, 0, 0);
        Due.due("book", x.book(1, 0), 4);
        Due.due("another law", x.back(0, 2), Due.STATE);
        Due.due("another lot", x.back(0, 3), Due.STATE);
        Due.due("itself", x.back(0, 0), Due.STATE);
        Due.due("an earlier one", x.back(1, 0), Due.STATE);
        Due.due("no such one", x.back(5, 1), Due.BEYOND);
        Due.due("no such one", x.back(0, 5), Due.BEYOND);
        Due.due("no such one", x.back(-1, 0), Due.BEYOND);
        Due.due("no such one", x.back(0, -1), Due.BEYOND);
        Due.due("back", x.back(1, 4), 1);
        Due.due("again", x.back(1, 4), Due.STATE);
        Due.due("because of one that was taken back", x.back(0, 1), 1);
        Due.due("by", x.entryIs(0, 3), 1);
        Due.due("by", x.entryIs(1, 3), 4);
        Due.due("count", x.count(2), 2);
        Due.due("book", x.book(1, 0), 4);
        Due.due("all are there", x.count(1), 5);
        Due.due("of another law", x.book(1, 3), 2);
        Due.due("of another lot", x.book(2, 0), 3);
        Due.due("none", x.book(2, 3), Due.NONE);
        Due.due("lot 4", x.book(4, 0), Due.BEYOND);
        Due.due("law -1", x.book(0, -1), Due.BEYOND);
    }

    private static void hanging() {
        StrengthHouse x = withPieces();
        x.enter(1, 0, 3);
        x.enter(1, 0, 0);
        x.enter(1, 0, 5);
        x.enter(1, 0, 2);
        hangsAre(x, 0b1111, 0, 0b1000, 0b0001, 0, 0b0100);
        x.prove(5, 3, 101, 0);
        x.prove(3, 1, 101, 0);
        hangsAre(x, 0b1111, 0b0101, 0b1000, 0b0101, 0, 0b0100);
        x.prove(3, 2, 101, 0);
        x.back(0, 1);
        hangsAre(x, 0b1111, 0, 0b1101, 0b0101, 0, 0b0100);
        Due.due("meter 6", x.hangs(6), Due.BEYOND);
        Due.due("meter -1", x.hangs(-1), Due.BEYOND);
    }

    private static void hangsAre(StrengthHouse x, int... bits) {
        for (int meter = 0; meter < bits.length; meter++) {
            Due.due("hangs " + meter, x.hangs(meter), bits[meter]);
        }
    }
}
