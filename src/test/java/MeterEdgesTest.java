/** METERS and THE BOOK (Terms 4, promises 23 to 29) at their edges. */
public final class MeterEdgesTest {
    public static void main(String[] args) {
        metersThatAreProved();
        ofALesserNumber();
        factors();
        doubts();
        cutAtEachStep();
        twoThousandMillionAtEachStep();
        doubtTogether();
        whatIsLed();
        provedAgain();
        twentyEntries();
        asTheyWereThen();
        whatAnEntryIs();
        takenBack();
        theLatest();
        wayTo0();
        Due.finish();
    }

    /** METER (1 .. 5). */
    private static void metersThatAreProved() {
        StrengthHouse x = new StrengthHouse();
        Due.due("-1", x.prove(-1, 0, 201, 0), Due.BEYOND);
        Due.due("0", x.prove(0, 0, 201, 0), Due.BEYOND);
        for (int meter = 1; meter <= 5; meter++) {
            Due.due("as at first", x.led(meter, 10, 0), 10);
            Due.due("" + meter, x.prove(meter, 0, 201, 0), 1);
            Due.due("led", x.led(meter, 10, 0), 20);
        }
        Due.due("6", x.prove(6, 0, 201, 0), Due.BEYOND);
        Due.due("the house's own", x.led(0, 10, 0), 10);
    }

    /** Another one of a lesser number (STATE), that is one (BEYOND). */
    private static void ofALesserNumber() {
        for (int meter = 1; meter <= 5; meter++) {
            StrengthHouse x = new StrengthHouse();
            for (int other = -1; other <= 6; other++) {
                int want = other < 0 || other > 5 ? Due.BEYOND : other >= meter ? Due.STATE : 1;
                Due.due(meter + " against " + other, x.prove(meter, other, 101, 0), want);
            }
            Due.due("told", x.told(3), 6 - meter);
            Due.due("told", x.told(1), 2);
        }
    }

    /** 100 times up, and down (1 .. 99 each). */
    private static void factors() {
        StrengthHouse x = new StrengthHouse();
        int[] no = {-10000, -101, -1, 0, 1, 99, 100, 200, 300, 9900, 10000, 10001, 10099, 10100};
        for (int factors : no) {
            Due.due("factors " + factors, x.prove(1, 0, factors, 0), Due.BEYOND);
            Due.due("nothing changed", x.led(1, 9801, 0), 9801);
        }
        int[] yes = {101, 102, 199, 201, 298, 5001, 9801, 9898, 9901, 9999};
        for (int factors : yes) {
            Due.due("factors " + factors, x.prove(1, 0, factors, 0), 1);
            Due.due("led", x.led(1, 9801, 0), 9801 * (factors / 100) / (factors % 100));
        }
    }

    /** A doubt (0 .. 99). */
    private static void doubts() {
        StrengthHouse x = new StrengthHouse();
        Due.due("-1", x.prove(1, 0, 101, -1), Due.BEYOND);
        Due.due("0", x.prove(1, 0, 101, 0), 1);
        Due.due("0", x.led(1, 5, 1), 0);
        Due.due("1", x.prove(1, 0, 101, 1), 1);
        Due.due("1", x.led(1, 5, 1), 1);
        Due.due("98", x.prove(1, 0, 101, 98), 1);
        Due.due("99", x.prove(1, 0, 101, 99), 1);
        Due.due("100", x.prove(1, 0, 101, 100), Due.BEYOND);
        Due.due("99 stays", x.led(1, 5, 1), 99);
        Due.due("at first", x.led(2, 5, 1), 0);
    }

    /** V times up by down, cut, at each step. */
    private static void cutAtEachStep() {
        StrengthHouse x = new StrengthHouse();
        x.prove(1, 0, 301, 0);
        x.prove(2, 1, 102, 0);
        int[] want = {0, 0, 3, 3, 6, 6, 9};
        for (int v = 0; v < want.length; v++) {
            Due.due("by 2, times 3: " + v, x.led(2, v, 0), want[v]);
        }
        x.prove(3, 2, 301, 0);
        x.prove(4, 3, 102, 0);
        x.prove(5, 4, 107, 0);
        Due.due("five steps", x.led(5, 27, 0), 27 / 7 / 2 * 3 / 2 * 3);
        Due.due("five steps", x.led(5, 28, 0), 28 / 7 / 2 * 3 / 2 * 3);
        Due.due("none", x.led(5, 6, 0), 0);
    }

    /** 2000000000 at most, at each step. */
    private static void twoThousandMillionAtEachStep() {
        StrengthHouse x = new StrengthHouse();
        x.prove(1, 0, 5001, 0);
        x.prove(2, 1, 5001, 0);
        x.prove(3, 2, 8001, 0);
        Due.due("less", x.led(3, 9999, 0), 1999800000);
        Due.due("as much", x.led(3, 10000, 0), 2000000000);
        Due.due("more", x.led(3, 10001, 0), 2000000000);
        Due.due("much more", x.led(3, 99999, 0), 2000000000);
        x.prove(1, 0, 102, 0);
        x.prove(2, 1, 5001, 0);
        x.prove(4, 3, 5001, 0);
        // On 1 it is 2000000000 at most; half of that comes to 0.
        Due.due("less ahead of the last step", x.led(4, 9999, 0), 999900000);
        Due.due("as much", x.led(4, 10000, 0), 1000000000);
        Due.due("more", x.led(4, 10001, 0), 1000000000);
        x.prove(1, 0, 9901, 0);
        Due.due("again too much", x.led(4, 10001, 0), 2000000000);
        x.prove(1, 0, 9998, 0);
        Due.due("up by down of the most", x.led(4, 10001, 0), 2000000000);
        x.prove(1, 0, 9899, 0);
        Due.due("a little less", x.led(4, 10001, 0), (int) (2000000000L * 98 / 99));
    }

    /** Of each METER on the way what LED makes of its doubt, together (2000000000 at most). */
    private static void doubtTogether() {
        StrengthHouse x = new StrengthHouse();
        x.prove(1, 0, 401, 0);
        for (int meter = 2; meter <= 5; meter++) {
            x.prove(meter, meter - 1, 5001, 0);
        }
        x.prove(5, 4, 5001, 79);
        Due.due("less", x.led(5, 0, 1), 1975000000);
        x.prove(5, 4, 5001, 80);
        Due.due("as much", x.led(5, 0, 1), 2000000000);
        x.prove(1, 0, 401, 1);
        Due.due("4 more", x.led(5, 0, 1), 2000000000);
        Due.due("of 1 alone", x.led(1, 0, 1), 4);
        Due.due("on the way from 4", x.led(4, 0, 1), 4);
        x.prove(5, 4, 5001, 79);
        Due.due("less, and 4", x.led(5, 0, 1), 1975000004);
        for (int meter = 1; meter <= 5; meter++) {
            x.prove(meter, meter - 1, 9901, 99);
        }
        Due.due("all of them", x.led(5, 0, 1), 2000000000);
        Due.due("of 3", x.led(3, 0, 1), 99 * 99 * 99 * 99 + 99 * 99 * 99 + 99 * 99);
        Due.due("of 0", x.led(0, 0, 1), 0);
        // Each is cut at each step by itself: 1 by 2 and 1 by 2 are 0.
        StrengthHouse y = new StrengthHouse();
        y.prove(1, 0, 102, 1);
        y.prove(2, 1, 102, 2);
        Due.due("cut, each", y.led(2, 0, 1), 0);
        y.prove(2, 1, 102, 4);
        Due.due("cut, each", y.led(2, 0, 1), 1);
    }

    /** METER, v (0 .. 99999), what. */
    private static void whatIsLed() {
        StrengthHouse x = new StrengthHouse();
        x.prove(5, 0, 101, 7);
        for (int what = 0; what <= 1; what++) {
            Due.due("v -1", x.led(5, -1, what), Due.BEYOND);
            Due.due("v 0", x.led(5, 0, what), what == 0 ? 0 : 7);
            Due.due("v 1", x.led(5, 1, what), what == 0 ? 1 : 7);
            Due.due("v 99998", x.led(5, 99998, what), what == 0 ? 99998 : 7);
            Due.due("v 99999", x.led(5, 99999, what), what == 0 ? 99999 : 7);
            Due.due("v 100000", x.led(5, 100000, what), Due.BEYOND);
            Due.due("METER -1", x.led(-1, 1, what), Due.BEYOND);
            Due.due("METER 0", x.led(0, 1, what), what == 0 ? 1 : 0);
            Due.due("METER 6", x.led(6, 1, what), Due.BEYOND);
        }
        Due.due("what -1", x.led(5, 1, -1), Due.BEYOND);
        Due.due("what 2", x.led(5, 1, 2), Due.BEYOND);
    }

    /** What is proved again is proved anew: against which one, factors and doubt. */
    private static void provedAgain() {
        StrengthHouse x = new StrengthHouse();
        x.prove(1, 0, 201, 3);
        x.prove(2, 1, 301, 5);
        Due.due("over 1", x.led(2, 10, 0), 60);
        Due.due("over 1", x.led(2, 10, 1), 15 * 2 + 6);
        x.prove(2, 0, 101, 1);
        Due.due("at once", x.led(2, 10, 0), 10);
        Due.due("at once", x.led(2, 10, 1), 1);
        x.prove(2, 1, 101, 0);
        Due.due("over 1 again", x.led(2, 10, 0), 20);
        x.prove(1, 0, 401, 1);
        Due.due("as 1 is now", x.led(2, 10, 0), 40);
        Due.due("a fault changes nothing", x.prove(2, 2, 909, 9), Due.STATE);
        Due.due("a fault changes nothing", x.prove(2, 0, 909, 100), Due.BEYOND);
        Due.due("as ahead of it", x.led(2, 10, 0), 40);
        Due.due("as ahead of it", x.led(2, 10, 1), 4);
    }

    private static StrengthHouse withLots() {
        StrengthHouse x = new StrengthHouse();
        for (int i = 0; i < 14; i++) {
            Due.piece(x, 0, i % 4, 10, 1, 2);
        }
        Due.trace(x, 0, 0, 10, 5, 4);
        Due.trace(x, 4, 0, 10, 5, -1);
        Due.trace(x, 12, 0, 30, 5, 30);
        Due.trace(x, 1, 0, 0);
        Due.trace(x, 13, 0, 7);
        return x;
    }

    /** ENTRIES 0, 1, .. (at most 20). */
    private static void twentyEntries() {
        StrengthHouse x = withLots();
        for (int i = 0; i < 20; i++) {
            Due.due("how many", x.count(1), i);
            Due.due("none yet", x.entryIs(i, 0), Due.BEYOND);
            Due.due("entry", x.enter(0, i % 4 == 2 ? 2 : 0, i % 6), i);
        }
        Due.due("one more", x.enter(0, 0, 0), Due.FULL);
        Due.due("none", x.enter(2, 0, 0), Due.NONE);
        Due.due("METER 6", x.enter(0, 0, 6), Due.BEYOND);
        Due.due("how many", x.count(1), 20);
        Due.due("entry 19", x.entryIs(19, 2), 1);
        Due.due("entry 20", x.entryIs(20, 2), Due.BEYOND);
        Due.due("as bits", x.hangs(0), 0xfffff);
        Due.due("by METER 1", x.hangs(1), 1 << 1 | 1 << 7 | 1 << 13 | 1 << 19);
        Due.due("back", x.back(18, 19), Due.STATE);
        Due.due("back", x.back(17, 19), 1);
        Due.due("taken back ones leave no room", x.enter(0, 0, 0), Due.FULL);
    }

    /** The greatest of NUMBERS as they were then, and the PIECES that had one. */
    private static void asTheyWereThen() {
        StrengthHouse x = withLots();
        Due.due("entry", x.enter(0, 0, 2), 0);
        Due.due("greatest", x.entryIs(0, 0), 30);
        Due.due("PIECES", x.entryIs(0, 1), 1 | 1 << 4 | 1 << 12);
        Due.due("of BREAKS", x.enter(0, 2, 5), 1);
        Due.due("greatest", x.entryIs(1, 0), 5);
        Due.due("PIECES", x.entryIs(1, 1), 1);
        Due.due("of YIELDS", x.enter(0, 1, 0), Due.NONE);
        Due.due("a NUMBER of 0", x.enter(1, 0, 0), 2);
        Due.due("greatest", x.entryIs(2, 0), 7);
        Due.due("PIECES", x.entryIs(2, 1), 1 << 1 | 1 << 13);
        Due.due("a lot without", x.enter(2, 0, 0), Due.NONE);
        Due.trace(x, 12, 0, 99);
        Due.trace(x, 8, 0, 98);
        Due.trace(x, 0);
        Due.trace(x, 13);
        Due.due("as it was", x.entryIs(0, 0), 30);
        Due.due("as it was", x.entryIs(0, 1), 1 | 1 << 4 | 1 << 12);
        Due.due("as it was", x.entryIs(2, 1), 1 << 1 | 1 << 13);
        Due.due("now", x.enter(0, 0, 2), 3);
        Due.due("now", x.entryIs(3, 0), 99);
        Due.due("now", x.entryIs(3, 1), 1 << 4 | 1 << 8 | 1 << 12);
        Due.due("0 alone", x.enter(1, 0, 0), 4);
        Due.due("0 alone", x.entryIs(4, 0), 0);
        Due.due("0 alone", x.entryIs(4, 1), 1 << 1);
        for (int v = -1; v <= 6; v++) {
            boolean isMeter = v >= 0 && v <= 5;
            Due.due("METER " + v, x.enter(0, 0, v) >= 0 ? 1 : 0, isMeter ? 1 : 0);
            boolean isLot = v >= 0 && v <= 1;
            Due.due("LOT " + v, x.enter(v, 0, 0), isLot ? x.count(1) - 1 : v == 2 || v == 3 ? Due.NONE : Due.BEYOND);
        }
        Due.due("LAW -1", x.enter(0, -1, 0), Due.BEYOND);
        Due.due("LAW 3", x.enter(0, 3, 0), x.count(1) - 1);
        Due.due("LAW 4", x.enter(0, 4, 0), Due.BEYOND);
    }

    /** Of an ENTRY what 0 to 3; NONE: none took it back. */
    private static void whatAnEntryIs() {
        StrengthHouse x = withLots();
        Due.due("no entry yet", x.entryIs(0, 0), Due.BEYOND);
        x.enter(0, 0, 0);
        x.enter(0, 0, 5);
        Due.due("METER 0", x.entryIs(0, 2), 0);
        Due.due("METER 5", x.entryIs(1, 2), 5);
        Due.due("what -1", x.entryIs(0, -1), Due.BEYOND);
        Due.due("what 3", x.entryIs(0, 3), Due.NONE);
        Due.due("what 4", x.entryIs(0, 4), Due.BEYOND);
        Due.due("ENTRY -1", x.entryIs(-1, 3), Due.BEYOND);
        Due.due("ENTRY 1", x.entryIs(1, 3), Due.NONE);
        Due.due("ENTRY 2", x.entryIs(2, 3), Due.BEYOND);
    }

    /** Because of a later ENTRY of the same LOT and LAW, once. */
    private static void takenBack() {
        StrengthHouse x = withLots();
        x.enter(0, 0, 0);
        x.enter(0, 0, 0);
        x.enter(1, 0, 0);
        x.enter(0, 3, 0);
        x.enter(0, 0, 0);
        Due.due("itself", x.back(1, 1), Due.STATE);
        Due.due("the one ahead", x.back(1, 0), Due.STATE);
        Due.due("of another LOT", x.back(1, 2), Due.STATE);
        Due.due("of another LAW", x.back(1, 3), Due.STATE);
        Due.due("ENTRY 5", x.back(5, 4), Due.BEYOND);
        Due.due("because of 5", x.back(4, 5), Due.BEYOND);
        Due.due("ENTRY -1", x.back(-1, 4), Due.BEYOND);
        Due.due("because of -1", x.back(0, -1), Due.BEYOND);
        Due.due("none was taken back", x.count(2), 0);
        Due.due("the next one", x.back(0, 1), 1);
        Due.due("once", x.back(0, 4), Due.STATE);
        Due.due("as it was", x.entryIs(0, 3), 1);
        Due.due("another", x.back(1, 4), 1);
        Due.due("by", x.entryIs(1, 3), 4);
        Due.due("two", x.count(2), 2);
        Due.due("five", x.count(1), 5);
        Due.due("not taken back", x.entryIs(4, 3), Due.NONE);
        Due.due("the last one", x.back(4, 4), Due.STATE);
    }

    /** The latest ENTRY of a LOT and a LAW (0 .. 3 each) that wasn't taken back. */
    private static void theLatest() {
        StrengthHouse x = withLots();
        Due.due("none", x.book(0, 0), Due.NONE);
        x.enter(0, 0, 0);
        Due.due("the first", x.book(0, 0), 0);
        x.enter(0, 3, 0);
        Due.due("of another LAW", x.book(0, 0), 0);
        x.enter(1, 0, 0);
        Due.due("of another LOT", x.book(0, 0), 0);
        x.enter(0, 0, 0);
        Due.due("the later one", x.book(0, 0), 3);
        x.enter(0, 0, 0);
        Due.due("back", x.back(3, 4), 1);
        Due.due("the latest", x.book(0, 0), 4);
        Due.due("its own", x.book(0, 3), 1);
        Due.due("its own", x.book(1, 0), 2);
        Due.due("none", x.book(3, 3), Due.NONE);
        Due.due("LOT -1", x.book(-1, 0), Due.BEYOND);
        Due.due("LOT 4", x.book(4, 0), Due.BEYOND);
        Due.due("LAW -1", x.book(0, -1), Due.BEYOND);
        Due.due("LAW 4", x.book(0, 4), Due.BEYOND);
    }

    private static void hangs(String what, StrengthHouse x, int... want) {
        for (int meter = 0; meter < 6; meter++) {
            Due.due(what + ", METER " + meter, x.hangs(meter), want[meter]);
        }
    }

    /** Each ENTRY by a METER whose way to 0 goes over it (itself, too). */
    private static void wayTo0() {
        StrengthHouse x = withLots();
        hangs("no entry", x, 0, 0, 0, 0, 0, 0);
        for (int meter = 0; meter < 6; meter++) {
            x.enter(0, 0, meter);
        }
        hangs("each against 0", x, 0x3f, 0x02, 0x04, 0x08, 0x10, 0x20);
        for (int meter = 1; meter < 6; meter++) {
            x.prove(meter, meter - 1, 101, 0);
        }
        hangs("each against the one ahead", x, 0x3f, 0x3e, 0x3c, 0x38, 0x30, 0x20);
        x.prove(4, 1, 101, 0);
        hangs("4 against 1", x, 0x3f, 0x3e, 0x0c, 0x08, 0x30, 0x20);
        x.prove(5, 0, 101, 0);
        hangs("5 against 0", x, 0x3f, 0x1e, 0x0c, 0x08, 0x10, 0x20);
        x.back(1, 5);
        hangs("taken back", x, 0x3f, 0x1e, 0x0c, 0x08, 0x10, 0x20);
        Due.due("METER -1", x.hangs(-1), Due.BEYOND);
        Due.due("METER 6", x.hangs(6), Due.BEYOND);
    }
}
