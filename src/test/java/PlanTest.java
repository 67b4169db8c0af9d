/** Promises 30 and 31. */
public final class PlanTest {
    public static void main(String[] args) {
        plates();
        platesByHand();
        drifts();
        Due.finish();
    }

    private static void plates() {
        StrengthHouse x = new StrengthHouse();
        Due.due("missing", x.plates(0, 0, 1), Due.NONE);
        Due.due("sheet 4", x.plates(4, 1, 1), Due.BEYOND);
        Due.due("sheet -1", x.plates(-1, 1, 1), Due.BEYOND);
        Due.due("n 11", x.plates(0, 11, 1), Due.BEYOND);
        Due.due("n -1", x.plates(0, -1, 1), Due.BEYOND);
        Due.due("length 0", x.plates(0, 1, 0), Due.BEYOND);
        Due.due("length 1000", x.plates(0, 1, 1000), Due.BEYOND);
        Due.row(x, 0, 999, 1, 998, 500, 499, 1000, 0);
        Due.due("none", x.plates(0, 0, 1), 0);
        Due.due("one", x.plates(0, 1, 999), 1);
        Due.due("five", x.plates(0, 5, 999), 3);
        Due.due("too long", x.plates(0, 1, 998), Due.STATE);
        Due.due("no length", x.plates(0, 6, 999), Due.BEYOND);
        Due.due("no length ahead of too long", x.plates(0, 6, 5), Due.BEYOND);
        x.put(0, 5, 0);
        Due.due("no length", x.plates(0, 6, 999), Due.BEYOND);
        Due.due("not so many", x.plates(0, 8, 999), Due.BEYOND);
        // Filling with the longest that fits would take three plates.
        Due.row(x, 0, 6, 5, 5, 4, 4, 3, 3);
        Due.due("two", x.plates(0, 7, 15), 2);
        Due.row(x, 0, 50, 50, 50, 50, 50, 50, 50, 50, 50, 50);
        Due.due("ten", x.plates(0, 10, 99), 10);
        Due.due("ten", x.plates(0, 10, 500), 1);
        Due.due("ten", x.plates(0, 10, 499), 2);
    }

    private static void platesByHand() {
        StrengthHouse x = new StrengthHouse();
        int seed = 3;
        for (int round = 0; round < 40; round++) {
            int[] lengths = new int[7];
            for (int i = 0; i < lengths.length; i++) {
                seed = seed * 1103515245 + 12345;
                lengths[i] = 1 + (seed >>> 16) % 30;
            }
            x = new StrengthHouse();
            Due.row(x, 0, lengths);
            Due.due("plates", x.plates(0, 7, 40), fewest(lengths, 0, new int[7], 40));
        }
    }

    private static int fewest(int[] lengths, int i, int[] plates, int length) {
        if (i == lengths.length) {
            int used = 0;
            for (int plate : plates) {
                used += plate > 0 ? 1 : 0;
            }
            return used;
        }
        int best = 99;
        for (int k = 0; k < plates.length; k++) {
            if (plates[k] + lengths[i] <= length) {
                plates[k] += lengths[i];
                best = Math.min(best, fewest(lengths, i + 1, plates, length));
                plates[k] -= lengths[i];
            }
        }
        return best;
    }

    private static void drifts() {
        StrengthHouse x = new StrengthHouse();
        for (int n = 2; n <= 12; n++) {
            int best = -1;
            int least = 1000;
            for (int bits = (1 << n) - 1; bits >= 0; bits--) {
                int one = 0;
                int other = 0;
                for (int k = 0; k < n; k++) {
                    one += (bits >> k & 1) * (k + 1);
                    other += (1 - (bits >> k & 1)) * (k + 1);
                }
                if (Integer.bitCount(bits) == n / 2 && Math.abs(one - other) <= least) {
                    best = bits;
                    least = Math.abs(one - other);
                }
            }
            Due.due("drift " + n, x.drift(n), best);
        }
        Due.due("drift 2", x.drift(2), 1);
        Due.due("drift 3", x.drift(3), 4);
        Due.due("drift 1", x.drift(1), Due.BEYOND);
        Due.due("drift 13", x.drift(13), Due.BEYOND);
        Due.due("drift -4", x.drift(-4), Due.BEYOND);
    }
}
