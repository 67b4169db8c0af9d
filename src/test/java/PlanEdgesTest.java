/** PLATES and A DRIFT (Terms 4, promises 30 and 31) at their edges. */
public final class PlanEdgesTest {
    public static void main(String[] args) {
        sheetsAndNumbers();
        lengths();
        longerThanAPlate();
        asMuchAsAPlate();
        theFewest();
        trials();
        differLeast();
        Due.finish();
    }

    private static StrengthHouse with(int... lengths) {
        StrengthHouse x = new StrengthHouse();
        Due.row(x, 0, lengths);
        return x;
    }

    /** SHEET, n (0 .. 10), length (1 .. 999); it hasn't so many. */
    private static void sheetsAndNumbers() {
        StrengthHouse x = with(1, 1, 1, 1, 1, 1, 1, 1, 1, 1, 1);
        int[] want = {Due.BEYOND, 0, 1, 1, 1, 1, 1, 1, 1, 1, 1, 1, Due.BEYOND, Due.BEYOND};
        for (int n = -1; n <= 12; n++) {
            Due.due("n " + n, x.plates(0, n, 10), want[n + 1]);
            Due.due("n " + n + ", of length 1", x.plates(0, n, 1), n < 0 || n > 10 ? Due.BEYOND : n);
            Due.due("n " + n + ", missing", x.plates(1, n, 10), n < 0 || n > 10 ? Due.BEYOND : Due.NONE);
        }
        for (int length : new int[] {-1, 0, 1000, 1001}) {
            Due.due("length " + length, x.plates(0, 1, length), Due.BEYOND);
            Due.due("length " + length + ", none", x.plates(0, 0, length), Due.BEYOND);
        }
        for (int length : new int[] {1, 2, 998, 999}) {
            Due.due("length " + length, x.plates(0, 1, length), 1);
            Due.due("length " + length + ", none", x.plates(0, 0, length), 0);
        }
        Due.due("SHEET -1", x.plates(-1, 1, 5), Due.BEYOND);
        Due.due("SHEET 3, missing", x.plates(3, 1, 5), Due.NONE);
        Due.due("SHEET 4", x.plates(4, 1, 5), Due.BEYOND);
        x = with(1, 1, 1);
        Due.due("as many as it has", x.plates(0, 3, 5), 1);
        Due.due("one more", x.plates(0, 4, 5), Due.BEYOND);
        x = with();
        Due.due("none of none", x.plates(0, 0, 5), 0);
        Due.due("one of none", x.plates(0, 1, 5), Due.BEYOND);
    }

    /** Lengths (1 .. 999). */
    private static void lengths() {
        Due.due("-1", with(-1).plates(0, 1, 999), Due.BEYOND);
        Due.due("0", with(0).plates(0, 1, 999), Due.BEYOND);
        Due.due("1", with(1).plates(0, 1, 999), 1);
        Due.due("998", with(998).plates(0, 1, 999), 1);
        Due.due("999", with(999).plates(0, 1, 999), 1);
        Due.due("1000", with(1000).plates(0, 1, 999), Due.BEYOND);
        Due.due("the last one", with(5, 5, 0).plates(0, 3, 999), Due.BEYOND);
        Due.due("one behind them doesn't matter", with(5, 5, 0).plates(0, 2, 999), 1);
    }

    /** STATE: one is longer than a plate (behind both BEYONDS). */
    private static void longerThanAPlate() {
        Due.due("as long", with(50).plates(0, 1, 50), 1);
        Due.due("1 longer", with(51).plates(0, 1, 50), Due.STATE);
        Due.due("1 shorter", with(49).plates(0, 1, 50), 1);
        Due.due("the last one", with(1, 2, 51).plates(0, 3, 50), Due.STATE);
        Due.due("one behind them doesn't matter", with(1, 2, 51).plates(0, 2, 50), 1);
        Due.due("no length ahead of it", with(51, 0).plates(0, 2, 50), Due.BEYOND);
        Due.due("1000 is no length", with(51, 1000).plates(0, 2, 50), Due.BEYOND);
        Due.due("too many ahead of it", with(51).plates(0, 2, 50), Due.BEYOND);
        Due.due("2 of 1", with(2).plates(0, 1, 1), Due.STATE);
        Due.due("999 of 998", with(999).plates(0, 1, 998), Due.STATE);
    }

    /** What is cut out of one plate is together as long as it, at most. */
    private static void asMuchAsAPlate() {
        Due.due("1 less", with(49, 50).plates(0, 2, 100), 1);
        Due.due("as much", with(50, 50).plates(0, 2, 100), 1);
        Due.due("1 more", with(51, 50).plates(0, 2, 100), 2);
        Due.due("as much", with(500, 499).plates(0, 2, 999), 1);
        Due.due("1 more", with(500, 500).plates(0, 2, 999), 2);
        Due.due("ten of 99", with(99, 99, 99, 99, 99, 99, 99, 99, 99, 99).plates(0, 10, 990), 1);
        Due.due("ten of 99", with(99, 99, 99, 99, 99, 99, 99, 99, 99, 99).plates(0, 10, 989), 2);
        Due.due("ten of 999", with(999, 999, 999, 999, 999, 999, 999, 999, 999, 999).plates(0, 10, 999), 10);
    }

    /** The fewest plates, whatever the order of the lengths. */
    private static void theFewest() {
        Due.due("two full ones", with(6, 5, 5, 4, 4, 3, 3).plates(0, 7, 15), 2);
        Due.due("three", with(6, 5, 5, 4, 4, 3, 3).plates(0, 7, 14), 3);
        Due.due("pairs", with(1, 2, 3, 4, 5, 6, 7, 8, 9, 10).plates(0, 10, 11), 5);
        Due.due("pairs", with(10, 1, 9, 2, 8, 3, 7, 4, 6, 5).plates(0, 10, 11), 5);
        Due.due("no pairs", with(1, 2, 3, 4, 5, 6, 7, 8, 9, 10).plates(0, 10, 10), 6);
        Due.due("three by three", with(44, 24, 24, 22, 21, 17, 8, 8, 6, 6).plates(0, 10, 60), 3);
    }

    /** N trials (2 .. 12). */
    private static void trials() {
        StrengthHouse x = new StrengthHouse();
        int[] want = {Due.BEYOND, 1, 4, 6, 12, 22};
        for (int n = 1; n <= 6; n++) {
            Due.due("n " + n, x.drift(n), want[n - 1]);
        }
        Due.due("n 0", x.drift(0), Due.BEYOND);
        Due.due("n -2", x.drift(-2), Due.BEYOND);
        Due.due("n 11 is one", x.drift(11) > 0 ? 1 : 0, 1);
        Due.due("n 12", x.drift(12), 504);
        Due.due("n 13", x.drift(13), Due.BEYOND);
    }

    /** The others are as many or one more; of several the least bits. */
    private static void differLeast() {
        StrengthHouse x = new StrengthHouse();
        for (int n = 2; n <= 12; n++) {
            int bits = x.drift(n);
            Due.due("half of " + n, Integer.bitCount(bits), n / 2);
            Due.due("no more than " + n, bits >> n, 0);
            int all = n * (n + 1) / 2;
            int apart = Math.abs(all - 2 * places(bits));
            for (int other = 0; other < 1 << n; other++) {
                if (Integer.bitCount(other) == n / 2) {
                    int otherApart = Math.abs(all - 2 * places(other));
                    boolean isBetter = otherApart < apart || otherApart == apart && other < bits;
                    Due.due(other + " of " + n + " is better", isBetter ? 1 : 0, 0);
                }
            }
        }
    }

    private static int places(int bits) {
        int sum = 0;
        for (int k = 0; k < 12; k++) {
            sum += (bits >> k & 1) * (k + 1);
        }
        return sum;
    }
}
