/** Terms 3 and promises 13 to 19 at their edges. */
public final class LawEdgesTest {
    public static void main(String[] args) {
        unlikeStretches();
        mostReadings();
        goodOnesAlone();
        ofSeveralTheFirst();
        notAheadOfTheSecond();
        lessThanTheLine();
        asFractions();
        offsets();
        topLoad();
        behindTheFirstTop();
        hundredths();
        spentUpToAReading();
        zeroIfItIsnt();
        numbersByLaw();
        numbersWithout();
        twoThousandMillionAtMost();
        curveAtItsEnds();
        theFirstSuchTwo();
        curveCut();
        middleOfACurve();
        curveOfALot();
        Due.finish();
    }

    private static StrengthHouse traced(int... readings) {
        StrengthHouse x = new StrengthHouse();
        Due.piece(x, 0, 0, 10, 1, 2);
        Due.due("traced", Due.trace(x, 0, readings), readings.length / 2);
        return x;
    }

    private static void line(String what, int first, int second, int count, int... readings) {
        StrengthHouse x = traced(readings);
        int[] want = {first, second, count};
        for (int i = 0; i < 3; i++) {
            Due.due(what + ", line " + i, x.line(0, i), count == 0 ? Due.NONE : want[i]);
        }
        Due.due(what + ", told", x.told(2), count == 0 ? 3 : 0);
        Due.due(what + ", what -1", x.line(0, -1), Due.BEYOND);
        Due.due(what + ", what 3", x.line(0, 3), Due.BEYOND);
    }

    /** Two GOOD READINGS with unlike stretches. */
    private static void unlikeStretches() {
        line("none", 0, 0, 0);
        line("one", 0, 0, 0, 5, 5);
        line("two at like stretches", 0, 0, 0, 5, 5, 5, 6);
        line("one apart", 0, 1, 2, 5, 5, 6, 6);
        line("the third is apart", 0, 2, 2, 5, 5, 5, 6, 6, 9);
        line("the second of like ones has more", 1, 2, 3, 5, 5, 5, 6, 6, 7, 7, 8);
        line("0 and 999", 0, 1, 2, 0, 99999, 999, 0);
    }

    /** On which the most GOOD READINGS lie: these two, too, and each that is there twice. */
    private static void mostReadings() {
        line("three of three", 0, 1, 3, 0, 0, 10, 10, 20, 20);
        line("one off by 1", 0, 1, 2, 0, 0, 10, 10, 20, 21);
        line("one off by -1", 0, 1, 2, 0, 0, 10, 10, 20, 19);
        line("three of four", 1, 2, 3, 0, 0, 10, 11, 20, 21, 30, 31);
        line("falling", 0, 1, 4, 0, 30, 10, 20, 20, 10, 30, 0);
        line("level", 0, 1, 3, 0, 7, 1, 7, 999, 7);
        line("the same one twice", 0, 1, 3, 0, 0, 4, 4, 4, 4);
        line("twelve", 0, 1, 12, 0, 0, 1, 1, 2, 2, 3, 3, 4, 4, 5, 5, 6, 6, 7, 7, 8, 8, 9, 9, 10, 10, 11, 11);
        // 0:0 and 999:99999 go through no whole load between; 333:33333 lies on it.
        line("great ones", 0, 1, 3, 0, 0, 333, 33333, 999, 99999);
        line("great ones, off by 1", 0, 1, 2, 0, 0, 333, 33332, 999, 99999);
    }

    /** One that isn't good lies on no line, though its -1 or -2 were on it. */
    private static void goodOnesAlone() {
        line("-1 would lie on it", 0, 1, 3, 0, 2, 1, 1, 2, 0, 3, -1);
        line("-2 would lie on it", 0, 1, 3, 0, 2, 1, 1, 2, 0, 4, -2);
        line("only one is good", 0, 0, 0, 0, 2, 1, -1, 2, -2);
        line("none is good", 0, 0, 0, 0, -1, 1, -1, 2, -2);
        line("they keep their places", 1, 3, 2, 0, -1, 1, 5, 2, -2, 3, 9);
        line("a load of 0 is good", 0, 1, 2, 0, 0, 1, 0);
    }

    /** Of several the first by the first of these, then by the second. */
    private static void ofSeveralTheFirst() {
        line("each two have two", 0, 1, 2, 0, 0, 1, 5, 2, 1);
        line("by the second", 0, 1, 3, 0, 0, 1, 5, 2, 2, 3, 15, 4, 4, 9, 9000);
        line("by the first", 0, 1, 3, 0, 0, 1, 1, 2, 2, 3, 50, 4, 60, 5, 70);
        line("two lines from the first", 0, 1, 3, 0, 0, 1, 1, 2, 4, 3, 3, 4, 8);
        line("more behind", 2, 3, 4, 0, 0, 1, 1, 2, 50, 3, 60, 4, 70, 5, 80);
    }

    /** YIELD is not ahead of the second of THE LINE. */
    private static void notAheadOfTheSecond() {
        // THE LINE goes through 0:10 and 10:20, with 20:30; 5:1 lies far below, ahead of the second.
        StrengthHouse x = traced(0, 10, 5, 1, 10, 20, 20, 30, 30, 39);
        Due.due("second", x.line(0, 1), 2);
        Due.due("ahead of it", x.yields(0, 0), 4);
        Due.due("none behind", traced(0, 10, 5, 1, 10, 20, 20, 30).yields(0, 0), Due.NONE);
        Due.due("right behind the second", traced(0, 0, 10, 10, 11, 5, 20, 20).yields(0, 0), 2);
    }

    /** Less than what THE LINE has, less o: as much isn't less. */
    private static void lessThanTheLine() {
        int[][] readings = {{0, 0, 10, 10, 20, 20, 30, 29}, {0, 0, 10, 10, 20, 20, 30, 30}, {0, 0, 10, 10, 20, 20, 30, 31}};
        int[] want = {3, Due.NONE, Due.NONE};
        for (int i = 0; i < 3; i++) {
            Due.due("offset 0", traced(readings[i]).yields(0, 0), want[i]);
            Due.due("offset 1", traced(readings[i]).yields(0, 1), Due.NONE);
        }
        StrengthHouse x = traced(0, 0, 10, 10, 20, 20, 30, 25);
        Due.due("4 less", x.yields(0, 4), 3);
        Due.due("5 less", x.yields(0, 5), Due.NONE);
        Due.due("6 less", x.yields(0, 6), Due.NONE);
        Due.due("of a falling line", traced(0, 30, 10, 20, 20, 10, 25, 4).yields(0, 0), 3);
        Due.due("of a falling line", traced(0, 30, 10, 20, 20, 10, 25, 5).yields(0, 0), Due.NONE);
        Due.due("the first of two", traced(0, 0, 10, 10, 20, 20, 30, 29, 40, 1).yields(0, 0), 3);
        Due.due("-1 isn't less", traced(0, 0, 10, 10, 20, 20, 30, -1, 40, -2).yields(0, 0), Due.NONE);
        Due.due("0 is", traced(0, 0, 10, 10, 20, 20, 30, 0).yields(0, 0), 3);
    }

    /** As fractions: nothing is cut. */
    private static void asFractions() {
        // THE LINE has 2/3 at 4, 4/3 at 5.
        Due.due("less by 2/3", traced(3, 0, 4, 0, 6, 2, 9, 4).line(0, 1), 2);
        Due.due("ahead of the second", traced(3, 0, 4, 0, 6, 2, 9, 4).yields(0, 0), Due.NONE);
        // 0:0 3:2 6:4, so 4 and 2/3 at 7: 4 is less, by 2/3 and not by 1.
        StrengthHouse x = traced(0, 0, 3, 2, 6, 4, 7, 4);
        Due.due("less by 2/3", x.yields(0, 0), 3);
        Due.due("not by 1", x.yields(0, 1), Due.NONE);
        // 5 and 1/3 at 8.
        x = traced(0, 0, 3, 2, 6, 4, 8, 4);
        Due.due("less by 4/3", x.yields(0, 0), 3);
        Due.due("by more than 1", x.yields(0, 1), 3);
        Due.due("not by 2", x.yields(0, 2), Due.NONE);
        x = traced(0, 0, 3, 2, 6, 4, 8, 6);
        Due.due("more by 2/3", x.yields(0, 0), Due.NONE);
    }

    /** Offset (0 .. 999). */
    private static void offsets() {
        StrengthHouse x = traced(0, 0, 10, 1000, 20, 2000, 21, 1101);
        Due.due("-1", x.yields(0, -1), Due.BEYOND);
        Due.due("0", x.yields(0, 0), 3);
        Due.due("998", x.yields(0, 998), 3);
        Due.due("999", x.yields(0, 999), Due.NONE);
        Due.due("1000", x.yields(0, 1000), Due.BEYOND);
        x = traced(0, 0, 10, 1000, 20, 2000, 21, 1100);
        Due.due("999", x.yields(0, 999), 3);
        Due.due("1000", x.yields(0, 1000), Due.BEYOND);
    }

    /** The greatest of GOOD READINGS. */
    private static void topLoad() {
        Due.due("none", traced().top(0), Due.NONE);
        Due.due("no good one", traced(1, -1, 2, -2).top(0), Due.NONE);
        Due.due("0", traced(1, -2, 2, 0).top(0), 0);
        Due.due("the first", traced(1, 9, 2, 8).top(0), 9);
        Due.due("the last", traced(1, 8, 2, 9).top(0), 9);
        Due.due("like ones", traced(1, 9, 2, 9).top(0), 9);
        Due.due("99999", traced(1, 99998, 2, 99999, 3, -2).top(0), 99999);
        Due.due("PIECE -1", traced().top(-1), Due.BEYOND);
        Due.due("PIECE 1", traced().top(1), Due.BEYOND);
    }

    /** Behind the first one with TOP LOAD. */
    private static void behindTheFirstTop() {
        Due.due("ahead of it", traced(1, 1, 2, 100).breaks(0, 20), Due.NONE);
        Due.due("behind it", traced(1, 1, 2, 100, 3, 1).breaks(0, 20), 2);
        Due.due("between two", traced(1, 100, 2, 1, 3, 100, 4, 2).breaks(0, 20), 1);
        Due.due("behind the last of two", traced(1, 100, 2, 100, 3, 1).breaks(0, 20), 2);
        Due.due("not good ones", traced(1, 100, 2, -1, 3, -2, 4, 79).breaks(0, 20), 3);
        Due.due("not good ones alone", traced(1, 100, 2, -1, 3, -2).breaks(0, 0), Due.NONE);
        Due.due("the top itself", traced(1, 100).breaks(0, 0), Due.NONE);
    }

    /** Less than 100 less f hundredths of that (f 0 .. 100); as much isn't less. */
    private static void hundredths() {
        StrengthHouse x = traced(0, 100, 1, 99, 2, 81, 3, 80, 4, 79, 5, 1, 6, 0);
        Due.due("-1", x.breaks(0, -1), Due.BEYOND);
        Due.due("0", x.breaks(0, 0), 1);
        Due.due("1", x.breaks(0, 1), 2);
        Due.due("18", x.breaks(0, 18), 2);
        Due.due("19", x.breaks(0, 19), 3);
        Due.due("20", x.breaks(0, 20), 4);
        Due.due("21", x.breaks(0, 21), 5);
        Due.due("98", x.breaks(0, 98), 5);
        Due.due("99", x.breaks(0, 99), 6);
        Due.due("100", x.breaks(0, 100), Due.NONE);
        Due.due("101", x.breaks(0, 101), Due.BEYOND);
        Due.due("0 isn't less than 0", traced(0, 0, 1, 0).breaks(0, 0), Due.NONE);
        // 80 hundredths of 99 are 79.2, of 99999 79999.2.
        Due.due("79 of 99", traced(0, 99, 1, 80, 2, 79).breaks(0, 20), 2);
        Due.due("79999 of 99999", traced(0, 99999, 1, 80000, 2, 79999).breaks(0, 20), 2);
        Due.due("99998 of 99999", traced(0, 99999, 1, 99999, 2, 99998).breaks(0, 0), 2);
    }

    /** Up to READING i, itself, too; no such READING is BEYOND. */
    private static void spentUpToAReading() {
        StrengthHouse x = traced(0, 1, 10, 2, 11, -1, 12, 4, 13, -2);
        long[] want = {0, 30, 30, 42, 42};
        Due.due("-1", x.spent(0, -1), Due.BEYOND);
        for (int i = 0; i < want.length; i++) {
            Due.due("up to " + i, x.spent(0, i), want[i]);
        }
        Due.due("5", x.spent(0, 5), Due.BEYOND);
        Due.due("no READING", traced().spent(0, 0), Due.BEYOND);
        Due.due("no GOOD one", traced(1, -1, 5, -2).spent(0, 1), 0);
        Due.due("the first isn't good", traced(1, -1, 5, 7, 6, 8).spent(0, 2), 15);
        Due.due("twelve", traced(0, 1, 1, 1, 2, 1, 3, 1, 4, 1, 5, 1, 6, 1, 7, 1, 8, 1, 9, 1, 10, 1, 11, 1).spent(0, 11), 22);
        Due.due("PIECE -1", x.spent(-1, 0), Due.BEYOND);
        Due.due("PIECE 1", x.spent(1, 0), Due.BEYOND);
        Due.due("told", x.told(1), 4);
    }

    /** How much the stretch of the later one is more (0, if it isn't). */
    private static void zeroIfItIsnt() {
        Due.due("as much", traced(5, 10, 5, 20).spent(0, 1), 0);
        Due.due("1 more", traced(5, 10, 6, 20).spent(0, 1), 30);
        StrengthHouse x = new StrengthHouse();
        Due.piece(x, 0, 0, 10, 0, 10);
        Due.program(x, 0, "go 6;read;back 1;read;back 4;read;go 2;read");
        Due.due("run", x.run(0, 0), 0);
        Due.same("readings", Due.readings(x, 0), "6:6 5:5 1:1 3:3");
        long[] want = {0, 0, 0, 8};
        for (int i = 0; i < 4; i++) {
            Due.due("up to " + i, x.spent(0, i), want[i]);
        }
    }

    /** 0 TOP LOAD, 1 the stretch of YIELD with offset 2, 2 the stretch of BREAK with fall 20, 3 SPENT. */
    private static void numbersByLaw() {
        StrengthHouse x = traced(0, 0, 10, 10, 20, 20, 30, 30, 33, 31, 40, 37, 41, 30, 42, 29, 43, -1);
        Due.due("-1", x.number(0, -1), Due.BEYOND);
        Due.due("top", x.number(0, 0), 37);
        // 33:31 is 2 below, which isn't less than the line less 2; 40:37 is 3 below.
        Due.due("yield", x.number(0, 1), 40);
        // 80 hundredths of 37 are 29.6.
        Due.due("break", x.number(0, 2), 42);
        Due.due("spent", x.number(0, 3), x.spent(0, 8));
        Due.due("spent", x.number(0, 3), 900 + 183 + 476 + 67 + 59);
        Due.due("4", x.number(0, 4), Due.BEYOND);
        x = traced(7, 5, 0 + 7, 5);
        Due.due("top at a stretch of its own", x.number(0, 0), 5);
    }

    /** NONE without. */
    private static void numbersWithout() {
        int[][] none = {{}, {1, -1}, {1, -1, 2, -2}};
        for (int[] readings : none) {
            StrengthHouse x = traced(readings);
            for (int law = 0; law < 4; law++) {
                Due.due("LAW " + law, x.number(0, law), Due.NONE);
            }
            Due.due("told", x.told(2), 4);
            Due.due("LAW 4", x.number(0, 4), Due.BEYOND);
        }
        StrengthHouse x = traced(4, 7);
        int[] one = {7, Due.NONE, Due.NONE, 0};
        for (int law = 0; law < 4; law++) {
            Due.due("one GOOD one, LAW " + law, x.number(0, law), one[law]);
        }
        x = traced(0, 100, 10, 100, 20, 80);
        int[] noBreak = {100, 20, Due.NONE, 2000 + 1800};
        for (int law = 0; law < 4; law++) {
            Due.due("no BREAK, LAW " + law, x.number(0, law), noBreak[law]);
        }
    }

    private static void spentIs(int size, int a, int b, int far, long spent, int number) {
        StrengthHouse x = new StrengthHouse();
        Due.piece(x, 0, 0, size, a, b);
        Due.program(x, 0, "read;go1;read;last go9999,go9999,go" + (far - 1 - 19998) + ",read");
        Due.due("run", x.run(0, 0), 0);
        Due.due("far", x.ran(2), far);
        Due.due("spent", x.spent(0, 2), spent);
        Due.due("number", x.number(0, 3), number);
        Due.due("entry", x.enter(0, 3, 0), 0);
        Due.due("entry", x.entryIs(0, 0), number);
    }

    /** 2000000000 at most; SPENT itself tells more. */
    private static void twoThousandMillionAtMost() {
        spentIs(97, 7327, 7357, 28128, 1999999999L, 1999999999);
        spentIs(99, 7179, 7209, 28128, 2000000000L, 2000000000);
        spentIs(99, 7190, 7230, 28081, 2000000001L, 2000000000);
        spentIs(99, 9999, 9999, 29998, 98990L * 29999, 2000000000);
    }

    private static void curveIs(StrengthHouse x, int stretch, int want) {
        for (int what = 0; what < 3; what++) {
            Due.due("curve at " + stretch, x.curve(0, stretch, what), want);
        }
        Due.due("how many at " + stretch, x.curve(0, stretch, 3), want == Due.NONE ? 0 : 1);
    }

    /** The first of them at that stretch or less, the other at it or more; stretch (0 .. 999). */
    private static void curveAtItsEnds() {
        StrengthHouse x = traced(10, 100, 20, 200);
        curveIs(x, 0, Due.NONE);
        curveIs(x, 9, Due.NONE);
        curveIs(x, 10, 100);
        curveIs(x, 11, 110);
        curveIs(x, 19, 190);
        curveIs(x, 20, 200);
        curveIs(x, 21, Due.NONE);
        curveIs(x, 999, Due.NONE);
        x = traced(0, 5, 999, 5);
        Due.due("-1", x.curve(0, -1, 1), Due.BEYOND);
        curveIs(x, 0, 5);
        curveIs(x, 1, 5);
        curveIs(x, 998, 5);
        curveIs(x, 999, 5);
        Due.due("1000", x.curve(0, 1000, 1), Due.BEYOND);
        Due.due("what -1", x.curve(0, 5, -1), Due.BEYOND);
        Due.due("what 4", x.curve(0, 5, 4), Due.BEYOND);
        curveIs(traced(), 0, Due.NONE);
        curveIs(traced(5, 5), 5, Due.NONE);
    }

    /** Two GOOD READINGS, one behind the other (no GOOD one between); of the first such two. */
    private static void theFirstSuchTwo() {
        curveIs(traced(10, 100, 15, -1, 20, 200), 15, 150);
        curveIs(traced(10, 100, 15, -2, 20, -1, 30, 300), 20, 200);
        curveIs(traced(10, 100, 15, 1000, 20, 200), 15, 1000);
        curveIs(traced(10, 100, 15, 1000, 20, 200), 16, 840);
        curveIs(traced(10, -1, 20, 200, 30, 300), 15, Due.NONE);
        curveIs(traced(10, 100, 20, -1), 15, Due.NONE);
        // The first's, if both stretches are alike.
        curveIs(traced(10, 100, 10, 900), 10, 100);
        curveIs(traced(10, 100, 10, 900), 9, Due.NONE);
        curveIs(traced(10, 100, 10, 900), 11, Due.NONE);
        curveIs(traced(10, 100, 10, 900, 20, 0), 10, 100);
        curveIs(traced(10, 100, 10, 900, 20, 0), 11, 810);
        curveIs(traced(5, 0, 10, 100, 10, 900), 10, 100);
        StrengthHouse x = new StrengthHouse();
        Due.piece(x, 0, 0, 10, 0, 100, 50);
        Due.program(x, 0, "go 10;read;back 6;read;go 10;read;back 9;read");
        x.run(0, 0);
        Due.same("readings", Due.readings(x, 0), "10:100 4:40 14:80 5:50");
        // The first two go back: they are around no stretch; 4:40 and 14:80 are around these.
        curveIs(x, 10, 64);
        curveIs(x, 4, 40);
        curveIs(x, 5, 44);
        curveIs(x, 14, 80);
        curveIs(x, 15, Due.NONE);
    }

    /** How much the other's is more, by parts of the way, cut. */
    private static void curveCut() {
        int[] up = {0, 0, 0, 1, 1, 1, 2, 2, 2, 3};
        int[] down = {3, 3, 3, 2, 2, 2, 1, 1, 1, 0};
        StrengthHouse rising = traced(0, 0, 9, 3);
        StrengthHouse falling = traced(0, 3, 9, 0);
        for (int i = 0; i < 10; i++) {
            curveIs(rising, i, up[i]);
            curveIs(falling, i, down[i]);
        }
        StrengthHouse great = traced(0, 0, 999, 99999);
        curveIs(great, 998, (int) (99999L * 998 / 999));
        great = traced(0, 99999, 999, 0);
        curveIs(great, 998, 99999 - (int) (99999L * 998 / 999));
    }

    /** By order: 0 the least, 1 the middle (the lower one of two), 2 the greatest, 3 how many. */
    private static void middleOfACurve() {
        int[] loads = {50, 20, 40, 10, 30, 60};
        int[] least = {50, 20, 20, 10, 10, 10};
        int[] middle = {50, 20, 40, 20, 30, 30};
        int[] greatest = {50, 50, 50, 50, 50, 60};
        StrengthHouse x = new StrengthHouse();
        Due.due("none", x.curve(1, 5, 1), Due.NONE);
        for (int i = 0; i < loads.length; i++) {
            Due.piece(x, 0, 1, 10, 1, 2);
            Due.due("without readings", x.curve(1, 5, 3), i);
            Due.trace(x, i, 0, loads[i], 9, loads[i]);
            Due.due("least", x.curve(1, 5, 0), least[i]);
            Due.due("middle", x.curve(1, 5, 1), middle[i]);
            Due.due("greatest", x.curve(1, 5, 2), greatest[i]);
            Due.due("how many", x.curve(1, 5, 3), i + 1);
        }
    }

    /** Of a LOT (0 .. 3): each of its PIECES, fourteen at most. */
    private static void curveOfALot() {
        StrengthHouse x = new StrengthHouse();
        for (int i = 0; i < 14; i++) {
            Due.piece(x, 0, i < 4 ? i : 3, 10, 1, 2);
            Due.trace(x, i, 0, i, 9, i);
        }
        Due.due("LOT -1", x.curve(-1, 5, 3), Due.BEYOND);
        for (int lot = 0; lot < 3; lot++) {
            Due.due("one", x.curve(lot, 5, 3), 1);
            Due.due("its own", x.curve(lot, 5, 1), lot);
        }
        Due.due("eleven", x.curve(3, 5, 3), 11);
        Due.due("the least", x.curve(3, 5, 0), 3);
        Due.due("the middle", x.curve(3, 5, 1), 8);
        Due.due("the greatest", x.curve(3, 5, 2), 13);
        Due.due("LOT 4", x.curve(4, 5, 3), Due.BEYOND);
        StrengthHouse all = new StrengthHouse();
        for (int i = 0; i < 14; i++) {
            Due.piece(all, 0, 2, 10, 1, 2);
            Due.trace(all, i, 0, 100 - i, 9, 100 - i);
        }
        Due.due("fourteen", all.curve(2, 5, 3), 14);
        Due.due("the least", all.curve(2, 5, 0), 87);
        Due.due("the lower middle one", all.curve(2, 5, 1), 93);
        Due.due("the greatest", all.curve(2, 5, 2), 100);
    }
}
