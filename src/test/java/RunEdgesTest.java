/** A RUN (Terms 2, promises 11 and 12) at its edges. */
public final class RunEdgesTest {
    public static void main(String[] args) {
        atFirst();
        timesOfGo();
        notBelow0();
        loadBelowN();
        tillLessThanN();
        threeHundredTimes();
        fifthHolds();
        aReadIsATick();
        broken();
        brokenForTheRest();
        theLimit();
        theLong();
        inOrder();
        theEndOfParts();
        lastPartsAreWhole();
        full();
        eachNth();
        noneWhateverTheLoad();
        delays();
        thirteenReadings();
        inPlaceOfThoseAhead();
        Due.finish();
    }

    /** A house with one piece whose load is its stretch, up to 110. */
    private static StrengthHouse ramp(int kind) {
        StrengthHouse x = new StrengthHouse();
        Due.piece(x, kind, 0, 10, 0, 10, 20, 30, 40, 50, 60, 70, 80, 90, 100, 110);
        return x;
    }

    private static void run(StrengthHouse x, String text, int why, int ticks, int stretch, int part, String readings) {
        Due.due("parts of " + text, Due.program(x, 0, text) > 0 ? 1 : 0, 1);
        Due.due(text, x.run(0, 0), why);
        Due.due(text + ": WHY", x.ran(0), why);
        Due.due(text + ": TICKS", x.ran(1), ticks);
        Due.due(text + ": stretch", x.ran(2), stretch);
        Due.due(text + ": PART", x.ran(3), part);
        Due.same(text, Due.readings(x, 0), readings);
    }

    /** Stretch 0, not broken, no READINGS, at first. */
    private static void atFirst() {
        StrengthHouse x = ramp(0);
        run(x, "go0", 0, 0, 0, 1, "");
        run(x, "read", 0, 1, 0, 1, "0:0");
        run(x, "go 111;read", 3, 111, 111, 0, "");
        run(x, "read;go 1;read", 0, 3, 1, 3, "0:0 1:1");
        Due.due("ran -1", x.ran(-1), Due.BEYOND);
        Due.due("ran 4", x.ran(4), Due.BEYOND);
        Due.due("why stays", x.ran(0), 0);
    }

    /** go N: N times the stretch is 1 more. */
    private static void timesOfGo() {
        StrengthHouse x = ramp(0);
        run(x, "go 0;read", 0, 1, 0, 2, "0:0");
        run(x, "go 1;read", 0, 2, 1, 2, "1:1");
        run(x, "go 109;read", 0, 110, 109, 2, "109:109");
        run(x, "go 110;read", 0, 111, 110, 2, "110:110");
        run(x, "go 111;read", 3, 111, 111, 0, "");
        run(x, "go 9999", 3, 111, 111, 0, "");
        run(x, "read;last go 9999", 0, 10000, 9999, 1, "0:0");
    }

    /** back N: N times 1 less (not below 0: nothing then), and each time is a TICK. */
    private static void notBelow0() {
        StrengthHouse x = ramp(0);
        run(x, "go 5;back 0;read", 0, 6, 5, 3, "5:5");
        run(x, "go 5;back 4;read", 0, 10, 1, 3, "1:1");
        run(x, "go 5;back 5;read", 0, 11, 0, 3, "0:0");
        run(x, "go 5;back 6;read;go 1;read", 0, 14, 1, 5, "0:0 1:1");
        run(x, "back 9999;go 2", 0, 10001, 2, 2, "");
        run(x, "go 1;last back 3,read,go 1,read", 0, 7, 1, 1, "0:0 1:1");
    }

    /** load N: 1 more as long as the LOAD is below N. */
    private static void loadBelowN() {
        StrengthHouse x = ramp(0);
        run(x, "load 0;read", 0, 1, 0, 2, "0:0");
        run(x, "load 1;read", 0, 2, 1, 2, "1:1");
        run(x, "go 50;load 49;read", 0, 51, 50, 3, "50:50");
        run(x, "go 50;load 50;read", 0, 51, 50, 3, "50:50");
        run(x, "go 50;load 51;read", 0, 52, 51, 3, "51:51");
        run(x, "load 110;read", 0, 111, 110, 2, "110:110");
        run(x, "load 111;read", 3, 111, 111, 0, "");
        Due.piece(x, 0, 0, 10, 50, 50, 60);
        Due.program(x, 1, "load 50;read;load 51;read");
        Due.due("flat, then up", x.run(1, 1), 0);
        Due.same("flat, then up", Due.readings(x, 1), "0:50 11:51");
        // The LOAD that is asked is the piece's own, not what a meter behind it says.
        x.limit(4, 5);
        run(x, "load 7;read", 0, 8, 7, 2, "7:3");
    }

    /** till N: 1 more as long as the stretch is less than N. */
    private static void tillLessThanN() {
        StrengthHouse x = ramp(0);
        run(x, "till 0;read", 0, 1, 0, 2, "0:0");
        run(x, "till 1;read", 0, 2, 1, 2, "1:1");
        run(x, "go 50;till 49;read", 0, 51, 50, 3, "50:50");
        run(x, "go 50;till 50;read", 0, 51, 50, 3, "50:50");
        run(x, "go 50;till 51;read", 0, 52, 51, 3, "51:51");
        run(x, "till 110", 0, 110, 110, 1, "");
        run(x, "till 111", 3, 111, 111, 0, "");
    }

    /** But 300 times at most; only last ones come so far. */
    private static void threeHundredTimes() {
        StrengthHouse x = ramp(0);
        run(x, "read;last till 299", 0, 300, 299, 1, "0:0");
        run(x, "read;last till 300", 0, 301, 300, 1, "0:0");
        run(x, "read;last till 301", 0, 301, 300, 1, "0:0");
        run(x, "read;last till 9999", 0, 301, 300, 1, "0:0");
        run(x, "read;last till 301,till 301", 0, 302, 301, 1, "0:0");
        run(x, "read;last load 1", 0, 2, 1, 1, "0:0");
        run(x, "read;last load 111", 0, 301, 300, 1, "0:0");
        run(x, "read;last load 9999,load 1", 0, 601, 600, 1, "0:0");
        run(x, "read;last go 111,load 0", 0, 112, 111, 1, "0:0");
        run(x, "read;last go 111,back 9,load 1", 0, 1 + 111 + 9 + 300, 402, 1, "0:0");
        StrengthHouse y = new StrengthHouse();
        Due.piece(y, 0, 0, 10, 0, 0);
        run(y, "go 1;last load 1", 0, 301, 301, 1, "");
    }

    /** Of a SLOW one each fifth such time ever in the RUN the stretch is 1 more. */
    private static void fifthHolds() {
        StrengthHouse x = ramp(3);
        run(x, "hold 0;read", 0, 1, 0, 2, "0:0");
        run(x, "hold 4;read", 0, 5, 0, 2, "0:0");
        run(x, "hold 5;read", 0, 6, 1, 2, "1:1");
        run(x, "hold 6;read", 0, 7, 1, 2, "1:1");
        run(x, "hold 9;read", 0, 10, 1, 2, "1:1");
        run(x, "hold 10;read", 0, 11, 2, 2, "2:2");
        run(x, "hold 11;read", 0, 12, 2, 2, "2:2");
        run(x, "hold 4;go 3;read;back 1;hold 1;read", 0, 11, 3, 6, "3:3 3:3");
        run(x, "hold 4;go 3;back 1;hold 5;read", 0, 14, 3, 5, "3:3");
        run(x, "hold 4;last hold 1,read,hold 4,read,hold 1,read", 0, 13, 2, 1, "1:1 1:1 2:2");
        run(x, "hold 3;back 9;hold 2;read", 0, 15, 1, 4, "1:1");
        for (int kind = 0; kind < 6; kind++) {
            if (kind != 3) {
                StrengthHouse y = ramp(kind);
                Due.program(y, 0, "hold 5;hold 9999");
                Due.due("not slow", y.run(0, 0), 0);
                Due.due("not slow", y.ran(2), 0);
                Due.due("each is a tick", y.ran(1), 10004);
            }
        }
    }

    /** Each of these times is a TICK (read is one, too). */
    private static void aReadIsATick() {
        StrengthHouse x = ramp(0);
        run(x, "read;read;read;read;read", 0, 5, 0, 5, "0:0 0:0 0:0 0:0 0:0");
        run(x, "go 3;back 1;hold 2;read;load 4;till 6", 0, 11, 6, 6, "2:2");
        run(x, "read;last read", 0, 2, 0, 1, "0:0 0:0");
        // One that reads alone is stopped behind it, too.
        StrengthHouse y = new StrengthHouse();
        Due.piece(y, 0, 0, 10, 5, 5);
        y.limit(0, 4);
        run(y, "read;read", 1, 1, 0, 0, "0:5");
        y.limit(0, 5);
        run(y, "read;read", 0, 2, 0, 2, "0:5 0:5");
    }

    /** The stretch is beyond the last one of ANSWERS: WHY 3. */
    private static void broken() {
        StrengthHouse x = new StrengthHouse();
        Due.piece(x, 0, 0, 10, 5, 6);
        run(x, "go 9;read", 0, 10, 9, 2, "9:5");
        run(x, "go 10;read", 0, 11, 10, 2, "10:6");
        run(x, "go 11;read", 3, 11, 11, 0, "");
        run(x, "go 10;go 1;read", 3, 11, 11, 1, "");
        run(x, "go 10;till 11;read", 3, 11, 11, 1, "");
        run(x, "go 10;load 7;read", 3, 11, 11, 1, "");
        StrengthHouse slow = new StrengthHouse();
        Due.piece(slow, 3, 0, 10, 5, 6);
        run(slow, "go 10;hold 4;read", 0, 15, 10, 3, "10:6");
        run(slow, "go 10;hold 9;read", 3, 15, 11, 1, "");
    }

    /** Or was so ahead in this RUN; LOAD is 0 of one that is broken (for the rest of the RUN). */
    private static void brokenForTheRest() {
        StrengthHouse x = new StrengthHouse();
        Due.piece(x, 0, 0, 10, 50, 60);
        run(x, "go 11;last read,back 1,read,back 10,read", 3, 25, 0, 0, "11:0 10:0 0:0");
        run(x, "go 10;last read,go 1,back 1,read", 0, 14, 10, 1, "10:60 10:0");
        run(x, "go 10;last read,go 0,read,back 1,read", 0, 14, 9, 1, "10:60 10:60 9:59");
        run(x, "read;go 10;read", 0, 12, 10, 3, "0:50 10:60");
        Due.due("an answer isn't of the RUN", x.answer(0, 10), 60);
    }

    /** The LOAD is above LIMIT: WHY 1. */
    private static void theLimit() {
        StrengthHouse x = ramp(0);
        x.limit(0, 20);
        run(x, "go 19;read", 0, 20, 19, 2, "19:19");
        run(x, "go 20;read", 0, 21, 20, 2, "20:20");
        run(x, "go 21;read", 1, 21, 21, 0, "");
        run(x, "go 20;read;go 1;read", 1, 22, 21, 2, "20:20");
        x.limit(0, 0);
        run(x, "read;go 1;read", 1, 2, 1, 1, "0:0");
        x.limit(0, 110);
        run(x, "go 110;read", 0, 111, 110, 2, "110:110");
        StrengthHouse most = new StrengthHouse();
        Due.piece(most, 0, 0, 99, 9999, 9999);
        run(most, "read", 0, 1, 0, 1, "0:98990");
        most.limit(0, 98990);
        run(most, "read", 0, 1, 0, 1, "0:98990");
        most.limit(0, 98989);
        run(most, "read;read", 1, 1, 0, 0, "0:98990");
    }

    /** The stretch is above LONG: WHY 2. */
    private static void theLong() {
        StrengthHouse x = ramp(0);
        x.limit(1, 20);
        run(x, "go 19;read", 0, 20, 19, 2, "19:19");
        run(x, "go 20;read", 0, 21, 20, 2, "20:20");
        run(x, "go 21;read", 2, 21, 21, 0, "");
        run(x, "till 20;read;till 21;read", 2, 22, 21, 2, "20:20");
        x.limit(1, 0);
        run(x, "read;go 1;read", 2, 2, 1, 1, "0:0");
        run(x, "back 5;hold 5;read", 0, 11, 0, 3, "0:0");
        x.limit(1, 1);
        run(x, "go 1;read;go 1;read", 2, 3, 2, 2, "1:1");
    }

    /** It is asked in order: broken, LIMIT, LONG. */
    private static void inOrder() {
        StrengthHouse x = ramp(0);
        x.limit(0, 50);
        x.limit(1, 50);
        run(x, "go 60", 1, 51, 51, 0, "");
        x.limit(1, 49);
        run(x, "go 60", 2, 50, 50, 0, "");
        x.limit(1, 50);
        x.limit(0, 49);
        run(x, "go 60", 1, 50, 50, 0, "");
        x.limit(0, 99999);
        x.limit(1, 110);
        run(x, "go 111", 3, 111, 111, 0, "");
        x.limit(1, 109);
        run(x, "go 111", 2, 110, 110, 0, "");
        // One that broke has no load, so that none is above a LIMIT of 0.
        StrengthHouse y = new StrengthHouse();
        Due.piece(y, 0, 0, 10, 0, 0);
        y.limit(0, 0);
        y.limit(1, 10);
        run(y, "go 11", 3, 11, 11, 0, "");
    }

    /** The PART (from 0 on) at which PARTS ended; how many there are, but for last ones, if all were done. */
    private static void theEndOfParts() {
        StrengthHouse x = ramp(0);
        run(x, "go 1", 0, 1, 1, 1, "");
        run(x, "go 1;go 1", 0, 2, 2, 2, "");
        run(x, "go 1;go 1;last go 1,go 1,go 1", 0, 5, 5, 2, "");
        run(x, "go 0;go 0;last go 0", 0, 0, 0, 2, "");
        x.limit(1, 2);
        run(x, "go 3;go 1", 2, 3, 3, 0, "");
        run(x, "go 2;go 1", 2, 3, 3, 1, "");
        run(x, "go 2;go 1;last read", 2, 4, 3, 1, "3:3");
        run(x, "go 1;go 1;go 1;go 1;go 1", 2, 3, 3, 2, "");
        run(x, "go 2;read;last go 1", 0, 4, 3, 2, "2:2");
    }

    /** Then last PARTS are done, one by one, whole (it may break there, too, which ends nothing). */
    private static void lastPartsAreWhole() {
        StrengthHouse x = ramp(0);
        x.limit(0, 5);
        x.limit(1, 5);
        run(x, "go 9;last go 9,read,go 200,read", 1, 6 + 9 + 1 + 200 + 1, 215, 0, "15:15 215:0");
        run(x, "go 5;last go 1,read,go 1,read", 0, 9, 7, 1, "6:6 7:7");
        run(x, "go 5;last go 105,read,go 1,read,go 1,read", 0, 5 + 105 + 1 + 1 + 1 + 1 + 1, 112, 1, "110:110 111:0 112:0");
        run(x, "go 6;last read", 1, 7, 6, 0, "6:6");
        Due.due("the next RUN is stopped as ever", x.run(0, 0), 1);
        Due.due("the next RUN", x.ran(1), 7);
    }

    /** A READING of a load above TOP is FULL: -2. */
    private static void full() {
        StrengthHouse x = ramp(0);
        x.limit(2, 20);
        run(x, "go 19;read;go 1;read;go 1;read", 0, 24, 21, 6, "19:19 20:20 21:-2");
        x.limit(2, 0);
        run(x, "read;go 1;read", 0, 3, 1, 3, "0:0 1:-2");
        x.limit(2, 1);
        run(x, "go 1;read;go 1;read;last read", 0, 5, 2, 4, "1:1 2:-2 2:-2");
        StrengthHouse most = new StrengthHouse();
        Due.piece(most, 0, 0, 99, 9999, 9999);
        most.limit(2, 98990);
        run(most, "read", 0, 1, 0, 1, "0:98990");
        most.limit(2, 98989);
        run(most, "read", 0, 1, 0, 1, "0:-2");
        Due.due("full ones aren't good", most.pieceIs(0, 5), 0);
        // The LOAD itself is what LIMIT is asked for, not what the meter says.
        most.limit(0, 98989);
        run(most, "read;read", 1, 1, 0, 0, "0:-2");
    }

    /** Each n-th READING of a RUN (the n-th, the 2n-th, ..; 0: no one) is NONE: -1. */
    private static void eachNth() {
        String six = "go 7;read;read;read;read;read;last read";
        String[] want = {"7:7 7:7 7:7 7:7 7:7 7:7", "7:-1 7:-1 7:-1 7:-1 7:-1 7:-1", "7:7 7:-1 7:7 7:-1 7:7 7:-1",
            "7:7 7:7 7:-1 7:7 7:7 7:-1", "7:7 7:7 7:7 7:-1 7:7 7:7", "7:7 7:7 7:7 7:7 7:-1 7:7",
            "7:7 7:7 7:7 7:7 7:7 7:-1", "7:7 7:7 7:7 7:7 7:7 7:7"};
        for (int n = 0; n <= 24; n++) {
            StrengthHouse each = ramp(0);
            each.limit(3, n);
            run(each, six, 0, 13, 7, 6, want[Math.min(n, 7)]);
        }
        StrengthHouse x = ramp(0);
        Due.due("n 24", x.limit(3, 24), 0);
        Due.due("n 25", x.limit(3, 25), Due.BEYOND);
        Due.due("24 stays", x.limit(3, 0), 24);
    }

    /** NONE, whatever the load: FULL ones, too. */
    private static void noneWhateverTheLoad() {
        StrengthHouse x = ramp(0);
        x.limit(2, 5);
        x.limit(3, 2);
        run(x, "go 5;read;read;go 1;read;read", 0, 10, 6, 6, "5:5 5:-1 6:-2 6:-1");
        run(x, "read;read;go 200;read", 3, 113, 111, 2, "0:0 0:-1");
        run(x, "go 111;last read,read", 3, 113, 111, 0, "111:0 111:-1");
    }

    /** DELAY (0 .. 5): the LOAD as it was so many TICKS ahead of its own (0, if there was none such). */
    private static void delays() {
        StrengthHouse x = new StrengthHouse();
        Due.piece(x, 0, 0, 10, 100, 110);
        String[] want = {"0:100 0:100 1:101 1:101 2:102 2:102", "0:0 0:100 1:101 1:101 2:102 2:102",
            "0:0 0:0 1:100 1:101 2:101 2:102", "0:0 0:0 1:100 1:100 2:101 2:101", "0:0 0:0 1:0 1:100 2:101 2:101",
            "0:0 0:0 1:0 1:0 2:100 2:101"};
        for (int delay = 0; delay <= 5; delay++) {
            x.limit(4, delay);
            run(x, "read;read;go 1;read;read;go 1;read;read", 0, 8, 2, 8, want[delay]);
        }
        Due.due("DELAY 6", x.limit(4, 6), Due.BEYOND);
        run(x, "go 4;read", 0, 5, 4, 2, "4:0");
        run(x, "go 5;read", 0, 6, 5, 2, "5:101");
        run(x, "go 6;read", 0, 7, 6, 2, "6:102");
        run(x, "hold 4;read", 0, 5, 0, 2, "0:0");
        run(x, "back 5;read", 0, 6, 0, 2, "0:100");
        // TICKS of last ones are TICKS, too; behind the break the LOAD is 0 five TICKS on.
        run(x, "go 9;last go 1,go 1,read,read,read,read,read,read", 0, 17, 11, 1,
            "11:107 11:108 11:109 11:110 11:0 11:0");
        x.limit(2, 108);
        run(x, "go 9;last go 1,go 1,read,read,read,read,read,read", 0, 17, 11, 1,
            "11:107 11:108 11:-2 11:-2 11:0 11:0");
        // A RUN knows nothing of the TICKS of the one ahead.
        run(x, "read;read;read;read;read;read", 0, 6, 0, 6, "0:0 0:0 0:0 0:0 0:0 0:100");
    }

    /** The tape takes thirteen reads at most; the limit of 24 lies beyond. */
    private static void thirteenReadings() {
        StrengthHouse x = ramp(0);
        run(x, "read;read;read;read;read;read;read;read;read;read;read;read;read", 0, 13, 0, 13,
            "0:0 0:0 0:0 0:0 0:0 0:0 0:0 0:0 0:0 0:0 0:0 0:0 0:0");
    }

    /** Whose READINGS are the PIECE's from then on. */
    private static void inPlaceOfThoseAhead() {
        StrengthHouse x = ramp(0);
        Due.trace(x, 0, 1, 1, 2, 2, 3, 3);
        run(x, "go 5;read", 0, 6, 5, 2, "5:5");
        run(x, "go 5", 0, 5, 5, 1, "");
        Due.due("no READINGS", x.count(7), 0);
        Due.trace(x, 0, 1, 1, 2, 2, 3, 3);
        Due.due("no PROGRAM", x.run(1, 0), Due.NONE);
        Due.same("they stay", Due.readings(x, 0), "1:1 2:2 3:3");
        Due.due("no PIECE", x.run(0, 1), Due.BEYOND);
        Due.same("they stay", Due.readings(x, 0), "1:1 2:2 3:3");
        Due.due("the latest RUN", x.ran(1), 5);
    }
}
