/** Promises 13 to 22. */
public final class LawTest {
    public static void main(String[] args) {
        lines();
        linesByHand();
        yields();
        tops();
        spent();
        numbers();
        curves();
        oddOnes();
        sureNumbers();
        fewPieces();
        Due.finish();
    }

    private static StrengthHouse traced(int... readings) {
        StrengthHouse x = new StrengthHouse();
        Due.piece(x, 0, 0, 10, 1, 2);
        Due.trace(x, 0, readings);
        return x;
    }

    private static void lineIs(StrengthHouse x, int first, int second, int count) {
        Due.due("first", x.line(0, 0), first);
        Due.due("second", x.line(0, 1), second);
        Due.due("count", x.line(0, 2), count);
    }

    private static void lines() {
        Due.due("no readings", traced().line(0, 0), Due.NONE);
        Due.due("one reading", traced(5, 5).line(0, 2), Due.NONE);
        Due.due("like stretches", traced(5, 5, 5, 6, 5, 7).line(0, 2), Due.NONE);
        Due.due("one good one", traced(5, 5, 6, -1, 7, -2).line(0, 2), Due.NONE);
        lineIs(traced(0, 0, 1, 1, 2, 2), 0, 1, 3);
        lineIs(traced(0, 9, 1, 1, 2, 2, 3, 3), 1, 2, 3);
        lineIs(traced(0, 0, 1, 5, 2, 2, 3, 6, 4, 4, 5, 7), 0, 2, 3);
        // Not good ones don't lie on it, and their places are counted on.
        lineIs(traced(0, -1, 1, 1, 2, -2, 3, 3, 4, 9), 1, 3, 2);
        // One that is there twice lies on it twice, though no line goes through these two.
        lineIs(traced(1, 4, 1, 4, 3, 8, 5, 9), 0, 2, 3);
        // Nothing is cut: 0:0 3:1 6:2 are on one line, 0:0 2:0 4:1 are not.
        lineIs(traced(0, 0, 2, 0, 3, 1, 6, 2), 0, 2, 3);
        // Great loads don't wrap.
        lineIs(traced(0, 0, 1, 99999, 999, 0, 999, 99999), 0, 1, 2);
        StrengthHouse x = traced(0, 0, 1, 1, 2, 2, 3, 3);
        lineIs(x, 0, 1, 4);
        Due.trace(x, 0, 0, -1, 1, 7, 2, 8);
        lineIs(x, 1, 2, 2);
        Due.trace(x, 0, 0, 7);
        Due.due("none any more", x.line(0, 2), Due.NONE);
        Due.due("what 3", x.line(0, 3), Due.BEYOND);
        Due.due("what -1", x.line(0, -1), Due.BEYOND);
        Due.due("piece 1", x.line(1, 0), Due.BEYOND);
    }

    private static final int[] STRETCHES = new int[24];
    private static final int[] LOADS = new int[24];

    /** Lines of runs whose stretches go back, too, against a search that counts by itself. */
    private static void linesByHand() {
        int seed = 7;
        for (int round = 0; round < 300; round++) {
            StrengthHouse x = new StrengthHouse();
            int[] answers = new int[6];
            for (int i = 0; i < answers.length; i++) {
                seed = seed * 1103515245 + 12345;
                answers[i] = (seed >>> 16) % 40;
            }
            Due.piece(x, 0, 0, 10, answers);
            StringBuilder text = new StringBuilder("read");
            for (int i = 0; i < 6; i++) {
                seed = seed * 1103515245 + 12345;
                int n = (seed >>> 16) % 15;
                text.append(i % 3 == 2 ? ";back" : ";go").append(n).append(";read");
            }
            if (Due.program(x, 0, text.toString()) < 0) {
                continue;
            }
            x.limit(3, 5);
            x.run(0, 0);
            writeDown(x);
            handLine(x);
        }
    }

    private static void handLine(StrengthHouse x) {
        int n = x.pieceIs(0, 4);
        int best = 0;
        int first = -1;
        int second = -1;
        for (int i = 0; i < n; i++) {
            for (int j = i + 1; j < n; j++) {
                int on = handOn(n, i, j);
                if (on > best) {
                    best = on;
                    first = i;
                    second = j;
                }
            }
        }
        lineIs(x, best == 0 ? Due.NONE : first, best == 0 ? Due.NONE : second, best == 0 ? Due.NONE : best);
        for (int offset = 0; offset < 6 && best > 0; offset++) {
            Due.due("yields", x.yields(0, offset), handYield(n, first, second, offset));
        }
    }

    private static int handOn(int n, int i, int j) {
        if (load(i) < 0 || load(j) < 0 || stretch(i) == stretch(j)) {
            return 0;
        }
        int on = 0;
        for (int k = 0; k < n; k++) {
            double at = lineAt(i, j, stretch(k));
            on += load(k) >= 0 && Math.abs(at - load(k)) < 1e-6 ? 1 : 0;
        }
        return on;
    }

    private static int handYield(int n, int i, int j, int offset) {
        for (int k = j; k < n; k++) {
            if (load(k) >= 0 && load(k) < lineAt(i, j, stretch(k)) - offset - 1e-6) {
                return k;
            }
        }
        return Due.NONE;
    }

    private static double lineAt(int i, int j, int stretch) {
        double slope = (load(j) - load(i)) / (double) (stretch(j) - stretch(i));
        return load(i) + slope * (stretch - stretch(i));
    }

    /** Each reading once, so that a house is used for no more than 512 calls. */
    private static void writeDown(StrengthHouse x) {
        for (int i = 0; i < x.pieceIs(0, 4); i++) {
            STRETCHES[i] = x.reading(0, i, 0);
            LOADS[i] = x.reading(0, i, 1);
        }
    }

    private static int load(int i) {
        return LOADS[i];
    }

    private static int stretch(int i) {
        return STRETCHES[i];
    }

    private static void yields() {
        StrengthHouse x = traced(0, 0, 10, 10, 20, 20, 30, 30, 40, 39, 50, 45, 60, 10);
        Due.due("offset 0", x.yields(0, 0), 4);
        Due.due("offset 1", x.yields(0, 1), 5);
        Due.due("offset 4", x.yields(0, 4), 5);
        Due.due("offset 5", x.yields(0, 5), 6);
        Due.due("offset 49", x.yields(0, 49), 6);
        Due.due("offset 50", x.yields(0, 50), Due.NONE);
        Due.due("offset 999", x.yields(0, 999), Due.NONE);
        Due.due("offset 1000", x.yields(0, 1000), Due.BEYOND);
        Due.due("offset -1", x.yields(0, -1), Due.BEYOND);
        Due.due("piece 1", x.yields(1, 0), Due.BEYOND);
        Due.due("no line", traced(1, 1).yields(0, 0), Due.NONE);
        // Ones ahead of the line's second are not asked: 5:1 lies below it.
        Due.due("ahead", traced(0, 10, 5, 1, 10, 20, 20, 30, 30, 35).yields(0, 0), 4);
        // As fractions: the line has 1 and one third at 4, and 1 is less.
        Due.due("a third", traced(0, 0, 3, 1, 4, 1, 6, 2, 9, 3).yields(0, 0), 2);
        Due.due("not good", traced(0, 0, 3, 3, 4, -2, 6, 6, 7, -1, 9, 8).yields(0, 0), 5);
    }

    private static void tops() {
        StrengthHouse x = traced(0, 50, 1, 100, 2, -2, 3, 100, 4, 80, 5, 79, 6, 0);
        Due.due("top", x.top(0), 100);
        Due.due("fall 0", x.breaks(0, 0), 4);
        Due.due("fall 19", x.breaks(0, 19), 4);
        Due.due("fall 20", x.breaks(0, 20), 5);
        Due.due("fall 21", x.breaks(0, 21), 6);
        Due.due("fall 99", x.breaks(0, 99), 6);
        Due.due("fall 100", x.breaks(0, 100), Due.NONE);
        Due.due("fall 101", x.breaks(0, 101), Due.BEYOND);
        Due.due("fall -1", x.breaks(0, -1), Due.BEYOND);
        Due.due("piece 1", x.breaks(1, 0), Due.BEYOND);
        Due.due("piece 1", x.top(1), Due.BEYOND);
        Due.due("none", traced(1, -1, 2, -2).top(0), Due.NONE);
        Due.due("none", traced(1, -1, 2, -2).breaks(0, 0), Due.NONE);
        Due.due("not good", traced(1, 5, 2, -2, 3, -1, 4, 4).breaks(0, 0), 3);
        Due.due("ahead of the top", traced(1, 1, 2, 9, 3, 9).breaks(0, 50), Due.NONE);
        // Behind the first of like tops.
        Due.due("first top", traced(1, 9, 2, 3, 3, 9, 4, 2).breaks(0, 50), 1);
        Due.due("great", traced(1, 99999, 2, 99998).breaks(0, 0), 1);
        Due.due("top 0", traced(1, 0, 2, 0).top(0), 0);
    }

    private static void spent() {
        StrengthHouse x = traced(0, 10, 5, 20, 5, 30, 7, -1, 9, -2, 10, 7);
        long[] want = {0, 150, 150, 150, 150, 150 + 37 * 5};
        for (int i = 0; i < want.length; i++) {
            Due.due("spent " + i, x.spent(0, i), want[i]);
        }
        Due.due("reading 6", x.spent(0, 6), Due.BEYOND);
        Due.due("reading -1", x.spent(0, -1), Due.BEYOND);
        Due.due("piece 1", x.spent(1, 0), Due.BEYOND);
        Due.due("no good one", traced(0, -1).spent(0, 0), 0);
        StrengthHouse y = new StrengthHouse();
        Due.piece(y, 0, 0, 10, 5, 15);
        Due.program(y, 0, "go 4;read;go 2;read;back 5;read;go 1;read");
        y.run(0, 0);
        // 4:9 6:11 1:6 2:7, of which the way back spends nothing.
        Due.due("back", y.spent(0, 3), 20 * 2 + 13);
        int[] great = new int[24];
        for (int i = 0; i < 12; i++) {
            great[2 * i] = i % 2 == 0 && i < 2 ? 0 : 999;
            great[2 * i + 1] = 99999;
        }
        StrengthHouse z = traced(great);
        Due.due("great", z.spent(0, 11), 199998L * 999);
    }

    private static void numbers() {
        StrengthHouse x = traced(0, 0, 10, 100, 20, 200, 30, 297, 40, 350, 50, 270, 60, -1);
        Due.due("top", x.number(0, 0), 350);
        Due.due("yield", x.number(0, 1), 30);
        Due.due("break", x.number(0, 2), 50);
        Due.due("spent", x.number(0, 3), 1000 + 3000 + 4970 + 6470 + 6200);
        Due.due("law 4", x.number(0, 4), Due.BEYOND);
        Due.due("law -1", x.number(0, -1), Due.BEYOND);
        Due.due("piece 1", x.number(1, 0), Due.BEYOND);
        Due.due("offset 2", traced(0, 0, 10, 10, 20, 20, 30, 28, 40, 37).number(0, 1), 40);
        Due.due("fall 20", traced(0, 100, 10, 80, 20, 79).number(0, 2), 20);
        for (int law = 0; law < 4; law++) {
            Due.due("without", traced().number(0, law), Due.NONE);
            Due.due("without a good one", traced(1, -1, 2, -2).number(0, law), Due.NONE);
        }
        Due.due("one good one", traced(4, 7).number(0, 3), 0);
        Due.due("one good one", traced(4, 7).number(0, 1), Due.NONE);
        StrengthHouse y = new StrengthHouse();
        Due.piece(y, 0, 0, 99, 9999, 9999);
        Due.program(y, 0, "read;last back 9,go 9999,go 9999,go 9999,go 9999,go 9999,read");
        y.run(0, 0);
        Due.due("much spent", y.spent(0, 1), 49995L * 98990);
        Due.due("2000000000 at most", y.number(0, 3), 2000000000);
        Due.program(y, 1, "read;go 10;read");
        y.run(1, 0);
        Due.due("not so much", y.number(0, 3), 10 * 2 * 98990);
    }

    private static void curves() {
        StrengthHouse x = new StrengthHouse();
        for (int i = 0; i < 5; i++) {
            Due.piece(x, 0, i == 4 ? 1 : 2, 10, 1, 2);
        }
        Due.due("no piece", x.curve(2, 5, 1), Due.NONE);
        Due.due("how many", x.curve(2, 5, 3), 0);
        Due.trace(x, 0, 0, 10, 10, 21);
        curveIs(x, 5, 15, 15, 15, 1);
        curveIs(x, 10, 21, 21, 21, 1);
        curveIs(x, 0, 10, 10, 10, 1);
        Due.trace(x, 1, 0, 10, 3, -1, 10, 0);
        curveIs(x, 5, 5, 5, 15, 2);
        // 10 and 3 tenths of 11 less: 3 less.
        Due.trace(x, 1, 0, 11, 3, -1, 10, 0);
        curveIs(x, 3, 8, 8, 13, 2);
        Due.trace(x, 2, 5, 100, 5, 200, 6, 300);
        curveIs(x, 5, 6, 15, 100, 3);
        Due.trace(x, 2, 4, 40, 5, 100, 5, 200, 6, 300);
        curveIs(x, 5, 6, 15, 100, 3);
        Due.trace(x, 3, 5, 7);
        curveIs(x, 5, 6, 15, 100, 3);
        Due.trace(x, 3, 5, -1, 5, 7, 6, 8);
        curveIs(x, 5, 6, 7, 100, 4);
        Due.trace(x, 4, 0, 1, 999, 1);
        curveIs(x, 5, 6, 7, 100, 4);
        Due.due("the other lot", x.curve(1, 999, 0), 1);
        Due.due("behind all", x.curve(2, 999, 0), Due.NONE);
        Due.due("what 4", x.curve(2, 5, 4), Due.BEYOND);
        Due.due("what -1", x.curve(2, 5, -1), Due.BEYOND);
        Due.due("stretch 1000", x.curve(2, 1000, 1), Due.BEYOND);
        Due.due("stretch -1", x.curve(2, -1, 1), Due.BEYOND);
        Due.due("lot 4", x.curve(4, 5, 1), Due.BEYOND);
        Due.due("lot -1", x.curve(-1, 5, 1), Due.BEYOND);
        Due.trace(x, 4, 0, 0, 998, 0);
        Due.due("a load of 0", x.curve(1, 5, 2), 0);
        Due.due("a load of 0", x.curve(1, 5, 3), 1);
        Due.trace(x, 4, 0, 99999, 998, 0);
        Due.due("great", x.curve(1, 997, 0), 99999 - 99999 * 997L / 998);
        StrengthHouse y = new StrengthHouse();
        Due.piece(y, 0, 0, 10, 0, 10, 20);
        Due.program(y, 0, "go 12;read;back 8;read;go 5;read");
        y.run(0, 0);
        // 12:12 4:4 9:9, of which the two last are the first ones around 6.
        Due.due("behind one that went back", y.curve(0, 6, 1), 6);
        Due.due("only back", y.curve(0, 11, 1), Due.NONE);
    }

    private static void curveIs(StrengthHouse x, int stretch, int least, int middle, int most, int n) {
        Due.due("least", x.curve(2, stretch, 0), least);
        Due.due("middle", x.curve(2, stretch, 1), middle);
        Due.due("greatest", x.curve(2, stretch, 2), most);
        Due.due("how many", x.curve(2, stretch, 3), n);
    }

    /** Pieces of lot 1 with these top loads; one of lot 0 ahead of them. */
    private static StrengthHouse lot(int... tops) {
        StrengthHouse x = new StrengthHouse();
        Due.piece(x, 0, 0, 10, 1, 2);
        Due.trace(x, 0, 1, 5000);
        for (int i = 0; i < tops.length; i++) {
            Due.piece(x, 0, 1, 10, 1, 2);
            if (tops[i] >= 0) {
                Due.trace(x, i + 1, 1, tops[i]);
            }
        }
        return x;
    }

    private static void oddOnes() {
        Due.due("the least", lot(100, 50, 110).odd(1, 0, 50), 2);
        Due.due("the greatest", lot(100, 150, 110).odd(1, 0, 50), 2);
        Due.due("the least ahead of the greatest", lot(200, 100, 0).odd(1, 0, 49), 3);
        Due.due("no more than the share", lot(200, 100, 0).odd(1, 0, 50), Due.NONE);
        Due.due("more than the share", lot(201, 100, 0).odd(1, 0, 50), 1);
        Due.due("two numbers", lot(100, 0, -1).odd(1, 0, 0), Due.NONE);
        Due.due("like ones", lot(7, 7, 7).odd(1, 0, 0), Due.NONE);
        Due.due("like least ones", lot(7, 7, 9).odd(1, 0, 0), 3);
        Due.due("like greatest ones", lot(7, 9, 9).odd(1, 0, 0), 1);
        Due.due("like ones at both ends", lot(7, 9, 9, 7).odd(1, 0, 0), Due.NONE);
        Due.due("share 100", lot(0, 9, 9, 9).odd(1, 0, 100), Due.NONE);
        Due.due("share 99", lot(0, 9, 9, 9).odd(1, 0, 99), 1);
        Due.due("without a number", lot(-1, 9, 9, 9, 70).odd(1, 0, 99), 5);
        StrengthHouse x = lot(1, 2, 3);
        Due.due("share 101", x.odd(1, 0, 101), Due.BEYOND);
        Due.due("share -1", x.odd(1, 0, -1), Due.BEYOND);
        Due.due("lot 4", x.odd(4, 0, 0), Due.BEYOND);
        Due.due("law 4", x.odd(1, 4, 0), Due.BEYOND);
        Due.due("other law", x.odd(1, 1, 0), Due.NONE);
    }

    private static void sureNumbers() {
        int[] tops = {50, 40, 60, 20, 10, 30, 70, 90, 80, 100, 120, 110, 130};
        for (int n = 0; n <= 13; n++) {
            int[] some = new int[n];
            for (int i = 0; i < n; i++) {
                some[i] = tops[i];
            }
            StrengthHouse x = lot(some);
            java.util.Arrays.sort(some);
            for (int p = 1; p <= 9; p++) {
                for (int t = 1; t <= 9; t++) {
                    int rank = n > 12 ? 0 : handRank(n, p, t);
                    Due.due("sure " + n + " " + p + " " + t, x.sure(1, 0, p, t), rank == 0 ? Due.NONE : some[rank - 1]);
                }
            }
        }
        StrengthHouse x = lot(1, 2, 3);
        Due.due("p 0", x.sure(1, 0, 0, 5), Due.BEYOND);
        Due.due("p 10", x.sure(1, 0, 10, 5), Due.BEYOND);
        Due.due("t 0", x.sure(1, 0, 5, 0), Due.BEYOND);
        Due.due("t 10", x.sure(1, 0, 5, 10), Due.BEYOND);
        Due.due("lot -1", x.sure(-1, 0, 5, 5), Due.BEYOND);
        Due.due("law 4", x.sure(1, 4, 5, 5), Due.BEYOND);
    }

    /** The greatest r by counting the chance of each of the 2 to the n ways. */
    private static int handRank(int n, int p, int t) {
        java.math.BigInteger[] below = new java.math.BigInteger[n + 1];
        java.util.Arrays.fill(below, java.math.BigInteger.ZERO);
        for (int set = 0; set < 1 << n; set++) {
            int k = Integer.bitCount(set);
            below[k] = below[k].add(java.math.BigInteger.valueOf(10 - p).pow(k)
                    .multiply(java.math.BigInteger.valueOf(p).pow(n - k)));
        }
        java.math.BigInteger most = java.math.BigInteger.TEN.pow(n).multiply(java.math.BigInteger.valueOf(10 - t));
        java.math.BigInteger fewer = java.math.BigInteger.ZERO;
        int best = 0;
        for (int r = 1; r <= n; r++) {
            fewer = fewer.add(below[r - 1]);
            best = fewer.multiply(java.math.BigInteger.TEN).compareTo(most) <= 0 ? r : best;
        }
        return best;
    }

    private static void fewPieces() {
        StrengthHouse x = new StrengthHouse();
        for (int p = 1; p <= 9; p++) {
            for (int t = 1; t <= 9; t++) {
                int n = 1;
                while (n <= 12 && handRank(n, p, t) == 0) {
                    n++;
                }
                Due.due("few " + p + " " + t, x.few(p, t), n > 12 ? Due.NONE : n);
            }
        }
        Due.due("p 0", x.few(0, 5), Due.BEYOND);
        Due.due("p 10", x.few(10, 5), Due.BEYOND);
        Due.due("t 0", x.few(5, 0), Due.BEYOND);
        Due.due("t 10", x.few(5, 10), Due.BEYOND);
    }
}
