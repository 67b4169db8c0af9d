/** Promises 8 to 12. */
public final class RunTest {
    public static void main(String[] args) {
        limits();
        tape();
        texts();
        faults();
        plainRuns();
        stops();
        lastParts();
        slowOnes();
        meters();
        manyReadings();
        whatARunWas();
        Due.finish();
    }

    private static void limits() {
        StrengthHouse x = new StrengthHouse();
        int[] first = {99999, 999, 99999, 0, 0};
        int[] most = {99999, 999, 99999, 24, 5};
        for (int what = 0; what < 5; what++) {
            Due.due("beyond", x.limit(what, most[what] + 1), Due.BEYOND);
            Due.due("below 0", x.limit(what, -1), Due.BEYOND);
            Due.due("at first", x.limit(what, 0), first[what]);
            Due.due("then", x.limit(what, most[what]), 0);
            Due.due("then", x.limit(what, 1), most[what]);
        }
        Due.due("what 5", x.limit(5, 0), Due.BEYOND);
        Due.due("what -1", x.limit(-1, 0), Due.BEYOND);
    }

    private static void tape() {
        StrengthHouse x = new StrengthHouse();
        Due.due("n 0", x.feed(1, 0), Due.BEYOND);
        Due.due("n 9", x.feed(1, 9), Due.BEYOND);
        for (int i = 1; i <= 7; i++) {
            Due.due("feed", x.feed(-1L, 8), 8 * i);
        }
        Due.due("feed", x.feed(0, 7), 63);
        Due.due("two more", x.feed(0, 2), Due.FULL);
        Due.due("count", x.count(4), 63);
        Due.due("one more", x.feed(0, 1), 64);
        Due.due("one more", x.feed(0, 1), Due.FULL);
        Due.due("program 4", x.program(4), Due.BEYOND);
        Due.due("program -1", x.program(-1), Due.BEYOND);
        Due.due("the tape stays", x.count(4), 64);
        Due.due("a fault", x.program(0), -10);
        Due.due("the tape is empty", x.count(4), 0);
        Due.due("an empty tape", x.program(0), -10);
        // Only the lowest bytes come: "read" of "readxxxx".
        x.feed(0x7878787864616572L, 4);
        Due.due("read", x.program(0), 1);
    }

    private static void texts() {
        StrengthHouse x = new StrengthHouse();
        Due.due("one", Due.program(x, 0, "read"), 1);
        Due.due("all", Due.program(x, 0, "go 1;load 20;hold 333;back 4444;read;till 5;last read,go 1"), 8);
        Due.due("no blanks", Due.program(x, 1, "go0;load1;last hold2,back0003"), 4);
        Due.due("blanks", Due.program(x, 2, "go   1  ;  read  ;  last   go   1  ,  read"), 4);
        Due.due("16 parts", Due.program(x, 3, "go1;go1;go1;go1;go1;go1;go1;go1;go1;go1;go1;go1;go1;go1;go1;go1"), 16);
        Due.due("four", x.count(3), 4);
        Due.due("in place of one", Due.program(x, 3, "read"), 1);
        Due.due("four", x.count(3), 4);
        Due.due("blanks at the ends", Due.program(x, 3, "  read  "), 1);
    }

    private static void faults() {
        StrengthHouse x = new StrengthHouse();
        Due.due("one", Due.program(x, 0, "go 7"), 1);
        fault(x, "go", 2);
        fault(x, "go ", 3);
        fault(x, "go x", 3);
        fault(x, "go;", 2);
        fault(x, "go 12345", 3);
        fault(x, "go 1234 5", 8);
        fault(x, "go1 2", 4);
        fault(x, "goo 1", 0);
        fault(x, "g 1", 0);
        fault(x, "Go 1", 0);
        fault(x, "rea", 0);
        fault(x, "readread", 0);
        fault(x, "read read", 5);
        fault(x, "read 5", 5);
        fault(x, "read5", 4);
        fault(x, "read;", 5);
        fault(x, "read; ", 6);
        fault(x, "read;;read", 5);
        fault(x, "read,read", 4);
        fault(x, "read;last", 9);
        fault(x, "read;last;", 9);
        fault(x, "read;last last read", 10);
        fault(x, "read;last read;read", 14);
        fault(x, "read;last read,", 15);
        fault(x, "read;last read,last read", 15);
        fault(x, "read;lastread", 5);
        fault(x, "last read", 0);
        fault(x, "lasts read", 0);
        fault(x, "5", 0);
        fault(x, "\u00e9", 0);
        fault(x, "go -1", 3);
        fault(x, "go\t1", 2);
        fault(x, "go 1;go 1;go 1;go 1;go 1;go 1;go 1;go 1;go 1;go 1;go 1;go 1;go ", 63);
        StrengthHouse y = new StrengthHouse();
        Due.due("fault", Due.program(y, 1, "read;no"), -15);
        Due.due("there is none", y.count(3), 0);
        Due.piece(x, 0, 0, 10, 1, 2, 3);
        Due.due("the one ahead stays", x.run(0, 0), 0);
        Due.due("as it was", x.ran(2), 7);
    }

    private static void fault(StrengthHouse x, String text, int place) {
        Due.due(text, Due.program(x, 0, text), -10 - place);
        Due.due("the tape is empty", x.count(4), 0);
    }

    /** A piece whose load is its stretch, up to 110. */
    private static int ramp(StrengthHouse x, int kind) {
        return Due.piece(x, kind, 0, 10, 0, 10, 20, 30, 40, 50, 60, 70, 80, 90, 100, 110);
    }

    private static void ranIs(StrengthHouse x, int why, int ticks, int stretch, int part) {
        Due.due("why", x.ran(0), why);
        Due.due("ticks", x.ran(1), ticks);
        Due.due("stretch", x.ran(2), stretch);
        Due.due("part", x.ran(3), part);
    }

    private static void plainRuns() {
        StrengthHouse x = new StrengthHouse();
        ramp(x, 0);
        Due.program(x, 0, "go10;read;back3;read;back9;read;load50;read;load40;till60;read");
        Due.due("run", x.run(0, 0), 0);
        Due.same("readings", Due.readings(x, 0), "10:10 7:7 0:0 50:50 60:60");
        ranIs(x, 0, 10 + 1 + 3 + 1 + 9 + 1 + 50 + 1 + 0 + 10 + 1, 60, 11);
        Due.program(x, 1, "hold 7;till 5;hold 0;read;till 5;go 0;back 0");
        Due.due("run", x.run(1, 0), 0);
        Due.same("readings in place of those ahead", Due.readings(x, 0), "5:5");
        ranIs(x, 0, 7 + 5 + 1, 5, 7);
        Due.piece(x, 0, 0, 10, 50, 60);
        Due.program(x, 2, "load 55;read;load 9999");
        Due.due("a load that isn't 0 at first", x.run(2, 1), 3);
        Due.same("readings", Due.readings(x, 1), "5:55");
        ranIs(x, 3, 5 + 1 + 6, 11, 2);
        Due.due("the other one keeps its own", x.pieceIs(0, 4), 1);
    }

    private static void stops() {
        StrengthHouse x = new StrengthHouse();
        ramp(x, 0);
        Due.program(x, 0, "go 50;read;go 50;read;go 50;read");
        Due.due("broken", x.run(0, 0), 3);
        ranIs(x, 3, 50 + 1 + 50 + 1 + 11, 111, 4);
        Due.due("answers are as ahead of it", x.answer(0, 100), 100);
        x.limit(1, 70);
        Due.due("long", x.run(0, 0), 2);
        ranIs(x, 2, 50 + 1 + 21, 71, 2);
        x.limit(0, 70);
        Due.due("load ahead of long", x.run(0, 0), 1);
        ranIs(x, 1, 50 + 1 + 21, 71, 2);
        x.limit(0, 20);
        Due.due("load", x.run(0, 0), 1);
        ranIs(x, 1, 21, 21, 0);
        Due.due("none was taken", x.pieceIs(0, 4), 0);
        x.limit(0, 99999);
        x.limit(1, 110);
        Due.due("broken ahead of long", x.run(0, 0), 3);
        x.limit(1, 999);
        Due.piece(x, 0, 0, 10, 500, 500);
        x.limit(0, 499);
        Due.program(x, 1, "read;read");
        Due.due("a reading stops, and is taken", x.run(1, 1), 1);
        Due.same("readings", Due.readings(x, 1), "0:500");
        ranIs(x, 1, 1, 0, 0);
        x.limit(0, 500);
        Due.due("as much as the limit", x.run(1, 1), 0);
    }

    private static void lastParts() {
        StrengthHouse x = new StrengthHouse();
        ramp(x, 0);
        Due.program(x, 0, "go 120;read;last read,back 60,read,load 1,read,till 20,go 2");
        Due.due("broken", x.run(0, 0), 3);
        Due.same("no load any more", Due.readings(x, 0), "111:0 51:0 351:0");
        ranIs(x, 3, 111 + 1 + 60 + 1 + 300 + 1 + 2, 353, 0);
        Due.program(x, 1, "go 5;last go 106,read,back 6,read,till 999,load 5");
        Due.due("it breaks behind the parts", x.run(1, 0), 0);
        Due.same("no load any more", Due.readings(x, 0), "111:0 105:0");
        ranIs(x, 0, 5 + 106 + 1 + 6 + 1 + 300 + 300, 705, 1);
        x.limit(0, 3);
        x.limit(1, 3);
        Due.program(x, 2, "go 5;read;last read,go 5,read");
        Due.due("limits don't stop last parts", x.run(2, 0), 1);
        Due.same("readings", Due.readings(x, 0), "4:4 9:9");
        ranIs(x, 1, 4 + 1 + 5 + 1, 9, 0);
        x.limit(0, 99999);
        x.limit(1, 999);
        Due.program(x, 3, "read;last go 9999,go 9999,read");
        Due.due("far", x.run(3, 0), 0);
        Due.same("readings", Due.readings(x, 0), "0:0 19998:0");
        Due.due("nothing changed for the next run", x.run(2, 0), 0);
        Due.same("readings", Due.readings(x, 0), "5:5 5:5 10:10");
    }

    private static void slowOnes() {
        StrengthHouse x = new StrengthHouse();
        ramp(x, 3);
        ramp(x, 1);
        Due.program(x, 0, "hold 4;read;hold 1;read;go 2;hold 9;read;last hold 2,read");
        Due.due("slow", x.run(0, 0), 0);
        Due.same("readings", Due.readings(x, 0), "0:0 1:1 4:4 5:5");
        ranIs(x, 0, 4 + 1 + 1 + 1 + 2 + 9 + 1 + 2 + 1, 5, 7);
        Due.due("again from 0", x.run(0, 0), 0);
        Due.same("readings", Due.readings(x, 0), "0:0 1:1 4:4 5:5");
        Due.due("pulled", x.run(0, 1), 0);
        Due.same("readings", Due.readings(x, 1), "0:0 0:0 2:2 2:2");
        Due.program(x, 1, "go 110;hold 9");
        Due.due("held until it breaks", x.run(1, 0), 3);
        ranIs(x, 3, 115, 111, 1);
    }

    private static void meters() {
        StrengthHouse x = new StrengthHouse();
        ramp(x, 0);
        Due.program(x, 0, "go 10;read;read;read;go 10;read;read;read");
        x.limit(2, 10);
        x.run(0, 0);
        Due.same("full above the top", Due.readings(x, 0), "10:10 10:10 10:10 20:-2 20:-2 20:-2");
        x.limit(3, 2);
        x.run(0, 0);
        Due.same("each second is none", Due.readings(x, 0), "10:10 10:-1 10:10 20:-1 20:-2 20:-1");
        x.limit(3, 0);
        x.limit(2, 99999);
        x.limit(4, 2);
        x.run(0, 0);
        Due.same("two ticks ahead", Due.readings(x, 0), "10:9 10:10 10:10 20:19 20:20 20:20");
        x.limit(4, 5);
        x.limit(2, 18);
        x.run(0, 0);
        Due.same("five ticks ahead", Due.readings(x, 0), "10:6 10:7 10:8 20:16 20:17 20:18");
        x.limit(2, 17);
        x.run(0, 0);
        Due.same("full as the meter has it", Due.readings(x, 0), "10:6 10:7 10:8 20:16 20:17 20:-2");
        x.limit(2, 99999);
        Due.piece(x, 0, 0, 10, 70, 80);
        Due.program(x, 1, "read;read;read;go 1;read;read;read");
        x.limit(4, 1);
        x.run(1, 1);
        Due.same("no such tick", Due.readings(x, 1), "0:0 0:70 0:70 1:71 1:71 1:71");
        x.limit(4, 3);
        x.run(1, 1);
        Due.same("no such tick", Due.readings(x, 1), "0:0 0:0 0:0 1:70 1:70 1:71");
        x.limit(4, 0);
        Due.program(x, 2, "go 9;last go 3,read,back 4,read");
        x.limit(4, 4);
        x.run(2, 1);
        Due.same("across the break", Due.readings(x, 1), "12:79 8:0");
    }

    private static void manyReadings() {
        StrengthHouse x = new StrengthHouse();
        ramp(x, 0);
        Due.program(x, 0, "read;read;read;read;read;read;read;read;read;read;read;read;read");
        x.limit(3, 13);
        x.run(0, 0);
        Due.due("thirteen", x.pieceIs(0, 4), 13);
        Due.due("twelve good ones", x.pieceIs(0, 5), 12);
        Due.due("the last is none", x.reading(0, 12, 1), -1);
        x.limit(3, 14);
        x.run(0, 0);
        Due.due("thirteen good ones", x.pieceIs(0, 5), 13);
        x.limit(3, 1);
        x.run(0, 0);
        Due.due("no good ones", x.pieceIs(0, 5), 0);
        Due.due("all", x.count(7), 13);
    }

    private static void whatARunWas() {
        StrengthHouse x = new StrengthHouse();
        ramp(x, 0);
        Due.due("no program", x.run(0, 0), Due.NONE);
        Due.due("program 4", x.run(4, 0), Due.BEYOND);
        Due.due("program -1", x.run(-1, 0), Due.BEYOND);
        Due.due("piece 1 ahead of no program", x.run(0, 1), Due.BEYOND);
        Due.due("piece -1", x.run(0, -1), Due.BEYOND);
        Due.due("no run", x.ran(0), Due.NONE);
        Due.due("what 4", x.ran(4), Due.BEYOND);
        Due.due("what -1", x.ran(-1), Due.BEYOND);
        Due.program(x, 0, "go 3");
        x.run(0, 0);
        ranIs(x, 0, 3, 3, 1);
        x.run(1, 0);
        ranIs(x, 0, 3, 3, 1);
        Due.due("what 4", x.ran(4), Due.BEYOND);
    }
}
