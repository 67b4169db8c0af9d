/** ODD, SURE and FEW (Terms 4, promises 20 to 22) at their edges. */
public final class LotEdgesTest {
    public static void main(String[] args) {
        moreThanItsShare();
        theLeastAheadOfTheGreatest();
        threeAtLeast();
        likeOnes();
        fourteenNumbers();
        ofItsLotAndLaw();
        noMoreThan();
        twelveNumbersAtMost();
        theOrderOfNumbers();
        few();
        tenths();
        Due.finish();
    }

    /** Pieces of lot 2 with these TOP LOADS (below 0: without one). */
    private static StrengthHouse lot(int... tops) {
        StrengthHouse x = new StrengthHouse();
        for (int i = 0; i < tops.length; i++) {
            Due.piece(x, 0, 2, 10, 1, 2);
            if (tops[i] >= 0) {
                Due.trace(x, i, 1, tops[i]);
            }
        }
        return x;
    }

    /** More than share hundredths (0 .. 100) of how far the greatest is from the least. */
    private static void moreThanItsShare() {
        StrengthHouse least = lot(70, 0, 100);
        Due.due("share -1", least.odd(2, 0, -1), Due.BEYOND);
        Due.due("share 0", least.odd(2, 0, 0), 1);
        Due.due("share 69", least.odd(2, 0, 69), 1);
        Due.due("share 70", least.odd(2, 0, 70), Due.NONE);
        Due.due("share 71", least.odd(2, 0, 71), Due.NONE);
        Due.due("share 100", least.odd(2, 0, 100), Due.NONE);
        Due.due("share 101", least.odd(2, 0, 101), Due.BEYOND);
        StrengthHouse greatest = lot(30, 100, 0);
        Due.due("share 29", greatest.odd(2, 0, 29), 2);
        Due.due("share 30", greatest.odd(2, 0, 30), 1);
        Due.due("share 69", greatest.odd(2, 0, 69), 1);
        Due.due("share 70", greatest.odd(2, 0, 70), Due.NONE);
        // 1 of 3 is more than 33 hundredths, and less than 34.
        Due.due("a third", lot(0, 1, 2, 3).odd(2, 0, 33), 0);
        Due.due("a third", lot(0, 1, 2, 3).odd(2, 0, 34), Due.NONE);
        Due.due("share 99", lot(5, 99999, 99999).odd(2, 0, 99), 0);
        Due.due("share 100", lot(5, 99999, 99999).odd(2, 0, 100), Due.NONE);
    }

    /** The least, if it is odd; else the greatest, likewise. */
    private static void theLeastAheadOfTheGreatest() {
        Due.due("both are", lot(10, 50, 90).odd(2, 0, 49), 0);
        Due.due("neither is", lot(10, 50, 90).odd(2, 0, 50), Due.NONE);
        Due.due("the greatest is more so", lot(10, 30, 90).odd(2, 0, 20), 0);
        Due.due("the greatest alone", lot(10, 30, 90).odd(2, 0, 25), 2);
    }

    /** Three NUMBERS at least. */
    private static void threeAtLeast() {
        Due.due("none", lot().odd(2, 0, 0), Due.NONE);
        Due.due("one", lot(5).odd(2, 0, 0), Due.NONE);
        Due.due("two", lot(5, 90).odd(2, 0, 0), Due.NONE);
        Due.due("two, and one without", lot(5, -1, 90).odd(2, 0, 0), Due.NONE);
        Due.due("three", lot(5, 90, 91).odd(2, 0, 0), 0);
        Due.due("three, and one without", lot(-1, 5, 90, 91).odd(2, 0, 0), 1);
    }

    /** Of like ones none is apart from the next. */
    private static void likeOnes() {
        Due.due("all alike", lot(5, 5, 5).odd(2, 0, 0), Due.NONE);
        Due.due("two least", lot(5, 5, 9).odd(2, 0, 0), 2);
        Due.due("two greatest", lot(9, 5, 9).odd(2, 0, 0), 1);
        Due.due("two of each", lot(9, 5, 9, 5).odd(2, 0, 0), Due.NONE);
        Due.due("like ones between", lot(7, 9, 7, 5).odd(2, 0, 0), 3);
    }

    private static void fourteenNumbers() {
        int[] tops = {50, 51, 52, 53, 54, 55, 56, 57, 58, 59, 60, 61, 62, 9};
        Due.due("the last of fourteen", lot(tops).odd(2, 0, 50), 13);
        tops[13] = 200;
        Due.due("the last of fourteen", lot(tops).odd(2, 0, 50), 13);
        tops[13] = 63;
        Due.due("none of fourteen", lot(tops).odd(2, 0, 50), Due.NONE);
    }

    /** Of a LOT (0 .. 3) and a LAW (0 .. 3). */
    private static void ofItsLotAndLaw() {
        StrengthHouse x = lot(5, 90, 91);
        Due.piece(x, 0, 3, 10, 1, 2);
        Due.trace(x, 3, 1, 99999);
        Due.due("not the other lot's", x.odd(2, 0, 50), 0);
        for (int lot = -1; lot <= 4; lot++) {
            boolean isLot = lot >= 0 && lot <= 3;
            Due.due("LOT " + lot, x.odd(lot, 0, 0), !isLot ? Due.BEYOND : lot == 2 ? 0 : Due.NONE);
            Due.due("LOT " + lot, x.sure(lot, 0, 1, 1), !isLot ? Due.BEYOND : lot == 2 ? 91 : lot == 3 ? 99999 : Due.NONE);
        }
        for (int law = -1; law <= 4; law++) {
            boolean isLaw = law >= 0 && law <= 3;
            Due.due("LAW " + law, x.odd(2, law, 0), !isLaw ? Due.BEYOND : law == 0 ? 0 : Due.NONE);
            int sure = law == 0 ? 91 : law == 3 ? 0 : Due.NONE;
            Due.due("LAW " + law, x.sure(2, law, 1, 1), isLaw ? sure : Due.BEYOND);
        }
    }

    /** The greatest r for which the chance is no more than 10 less t tenths; as much is no more. */
    private static void noMoreThan() {
        // Of one NUMBER: that none is below what p tenths pass has a chance of p tenths.
        StrengthHouse one = lot(42);
        for (int p = 1; p <= 9; p++) {
            for (int t = 1; t <= 9; t++) {
                Due.due("one, p " + p + ", t " + t, one.sure(2, 0, p, t), p <= 10 - t ? 42 : Due.NONE);
            }
        }
        // Of two: none with p * p hundredths, fewer than two with these and 2 * p * (10 - p).
        StrengthHouse two = lot(42, 17);
        for (int p = 1; p <= 9; p++) {
            for (int t = 1; t <= 9; t++) {
                int most = 100 - 10 * t;
                int want = p * p + 2 * p * (10 - p) <= most ? 42 : p * p <= most ? 17 : Due.NONE;
                Due.due("two, p " + p + ", t " + t, two.sure(2, 0, p, t), want);
            }
        }
        Due.due("none", lot().sure(2, 0, 1, 1), Due.NONE);
        Due.due("without NUMBERS", lot(-1, -1).sure(2, 0, 1, 1), Due.NONE);
    }

    /** More than 12 NUMBERS: NONE. */
    private static void twelveNumbersAtMost() {
        for (int n = 11; n <= 14; n++) {
            int[] tops = new int[n];
            for (int i = 0; i < n; i++) {
                tops[i] = 100 + i;
            }
            // 9 tenths to the 12th are 28 hundredths, to the 11th 31: t 7 is sure of 12 alone.
            StrengthHouse x = lot(tops);
            Due.due("p 9, t 7, " + n, x.sure(2, 0, 9, 7), n == 12 ? 100 : Due.NONE);
            Due.due("p 1, t 1, " + n, x.sure(2, 0, 1, 1), n > 12 ? Due.NONE : 100 + n - 1);
        }
        int[] tops = {1, 2, 3, 4, 5, 6, 7, 8, 9, 10, 11, 12, -1, -1};
        Due.due("12 of 14 PIECES", lot(tops).sure(2, 0, 9, 7), 1);
        tops[12] = 13;
        Due.due("13 of 14 PIECES", lot(tops).sure(2, 0, 9, 7), Due.NONE);
    }

    /** The r-th NUMBER by order, from the least on. */
    private static void theOrderOfNumbers() {
        // Of four, p 5: 1, 5, 11, 15 of 16 for r 1, 2, 3, 4.
        StrengthHouse x = lot(40, 10, 30, 20);
        int[] want = {30, 30, 30, 20, 20, 20, 10, 10, 10};
        int[] sixteenths = {1, 5, 11, 15};
        for (int t = 1; t <= 9; t++) {
            int r = 0;
            for (int k = 0; k < 4; k++) {
                r += sixteenths[k] * 10 <= 16 * (10 - t) ? 1 : 0;
            }
            want[t - 1] = r == 0 ? Due.NONE : 10 * r;
            Due.due("t " + t, x.sure(2, 0, 5, t), want[t - 1]);
        }
        Due.due("t 1", want[0], 30);
        Due.due("t 9", want[8], 10);
        Due.due("like ones", lot(7, 7, 7, 7).sure(2, 0, 5, 1), 7);
    }

    /** The fewest n (1 .. 12) with such an r. */
    private static void few() {
        StrengthHouse x = new StrengthHouse();
        for (int p = 1; p <= 9; p++) {
            Due.due("1 at t " + (10 - p), x.few(p, 10 - p), 1);
            if (p > 1) {
                Due.due("more at t " + (11 - p), x.few(p, 11 - p) == 1 ? 1 : 0, 0);
            }
        }
        Due.due("2", x.few(5, 6), 2);
        Due.due("3", x.few(5, 8), 3);
        Due.due("4", x.few(5, 9), 4);
        Due.due("9", x.few(9, 6), 9);
        Due.due("12", x.few(9, 7), 12);
        Due.due("13", x.few(9, 8), Due.NONE);
        Due.due("11", x.few(8, 9), 11);
        Due.due("told", x.told(2), 1);
    }

    /** p and t are 1 .. 9. */
    private static void tenths() {
        StrengthHouse x = lot(5);
        for (int v = -1; v <= 11; v++) {
            boolean isTenths = v >= 1 && v <= 9;
            Due.due("sure, p " + v, x.sure(2, 0, v, 1), isTenths ? 5 : Due.BEYOND);
            Due.due("sure, t " + v, x.sure(2, 0, 1, v), isTenths ? 5 : Due.BEYOND);
            Due.due("few, p " + v, x.few(v, 1), isTenths ? 1 : Due.BEYOND);
            Due.due("few, t " + v, x.few(1, v), isTenths ? 1 : Due.BEYOND);
        }
    }
}
