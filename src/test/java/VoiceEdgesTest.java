/** VOICES, BODIES, THE TRACE (Terms 5, promises 32 and 33) at their edges. */
public final class VoiceEdgesTest {
    public static void main(String[] args) {
        eachBody();
        whatIsSaid();
        intsThatWrap();
        cutToward0();
        parted();
        partedLeavesTheTrace();
        theTrace();
        Due.finish();
    }

    /** Pieces 0 to 5, each of its own KIND, of sizes 11, 12, .. */
    private static StrengthHouse sixKinds() {
        StrengthHouse x = new StrengthHouse();
        for (int kind = 0; kind < 6; kind++) {
            Due.piece(x, kind, 0, 11 + kind, 1, 2);
        }
        return x;
    }

    private static void voice(StrengthHouse x, int piece, int act, int v, int want, int... bodies) {
        String what = "piece " + piece + ", act " + act + " of " + v;
        Due.due(what, x.voice(piece, act, v), want);
        Due.due(what + ", bodies", x.count(6), bodies.length);
        Due.due(what + ", body -1", x.body(-1), Due.NONE);
        for (int i = 0; i < bodies.length; i++) {
            Due.due(what + ", body " + i, x.body(i), bodies[i]);
        }
        Due.due(what + ", behind the last body", x.body(bodies.length), Due.NONE);
        Due.due(what + ", body 30", x.body(30), Due.NONE);
    }

    /** The BODIES, as they began (what stands left is worked out first). */
    private static void eachBody() {
        StrengthHouse x = sixKinds();
        int s = 11;
        voice(x, 0, 0, 5, 5 + s, 10);
        voice(x, 0, 1, 5, 2 * (5 + s), 11, 10);
        voice(x, 0, 2, 5, 2 * (5 + s), 12, 11, 10);
        voice(x, 0, 3, 50, 50 / s, 13);
        s = 12;
        voice(x, 1, 0, 5, 5 + s, 10);
        voice(x, 1, 1, 5, 2 * (5 + s) + 3, 20, 11, 10);
        voice(x, 1, 2, 5, 2 * (5 + s) + 3 - 1 ^ s, 21, 12, 20, 11, 10);
        voice(x, 1, 3, 50, 50 / (s - 1), 13);
        s = 13;
        voice(x, 2, 0, 6, (6 + s) / 2, 30, 10);
        voice(x, 2, 1, 6, (6 + s) / 2 * 2, 11, 30, 10);
        voice(x, 2, 2, 6, (6 + s) / 2 * 2 - 2, 12, 11, 30, 10);
        voice(x, 2, 3, 50, 50 / (s - 2) + (1 + s) / 2 * 2 - 2, 31, 13, 12, 11, 30, 10);
        s = 14;
        voice(x, 3, 0, 5, -(5 + s), 40, 10);
        voice(x, 3, 1, 5, -2 * (5 + s) + 3, 20, 11, 40, 10);
        voice(x, 3, 2, 5, (-2 * (5 + s) + 3 - 3 ^ s) - (2 + s), 41, 21, 12, 20, 11, 40, 10, 40, 10);
        voice(x, 3, 3, 50, 50 / (s - 3), 13);
        s = 15;
        voice(x, 4, 0, 5, 5 + s, 10);
        voice(x, 4, 1, 5, 2 * (5 + s), 11, 10);
        voice(x, 4, 2, 5, (2 * (5 + s) - 4) * 3, 50, 12, 11, 10);
        voice(x, 4, 3, 50, 50 / (s - 4), 13);
        s = 16;
        voice(x, 5, 0, 5, (5 + s) / 2, 30, 10);
        voice(x, 5, 1, 5, (4 + s) / 2 * 2, 60, 11, 30, 10);
        voice(x, 5, 2, 5, (4 + s) / 2 * 2 - 5, 12, 60, 11, 30, 10);
        int reads = (49 + s) / 2 * 2;
        int told = 50 / (s - 5) + s / 2 * 2 - 5;
        voice(x, 5, 3, 50, reads - told, 61, 60, 11, 30, 10, 31, 13, 12, 60, 11, 30, 10);
    }

    /** PIECE and act (0 .. 3). */
    private static void whatIsSaid() {
        StrengthHouse x = sixKinds();
        voice(x, 0, 1, 5, 32, 11, 10);
        Due.due("act -1", x.voice(0, -1, 5), Due.BEYOND);
        Due.due("act 4", x.voice(0, 4, 5), Due.BEYOND);
        Due.due("PIECE -1", x.voice(-1, 0, 5), Due.BEYOND);
        Due.due("PIECE 6", x.voice(6, 0, 5), Due.BEYOND);
        Due.due("THE TRACE stays", x.count(6), 2);
        Due.due("THE TRACE stays", x.body(0), 11);
        voice(x, 5, 0, -16, 0, 30, 10);
        Due.due("told", x.told(1), 4);
    }

    /** A number x (ints that wrap). */
    private static void intsThatWrap() {
        int most = Integer.MAX_VALUE;
        int least = Integer.MIN_VALUE;
        StrengthHouse x = sixKinds();
        voice(x, 0, 0, most, least + 10, 10);
        voice(x, 0, 0, most - 11, most, 10);
        voice(x, 0, 0, most - 10, least, 10);
        voice(x, 0, 0, least, least + 11, 10);
        voice(x, 0, 1, (1 << 30) - 12, most - 1, 11, 10);
        voice(x, 0, 1, (1 << 30) - 11, least, 11, 10);
        voice(x, 0, 1, most, 20, 11, 10);
        voice(x, 1, 1, (1 << 30) - 13, least + 1, 20, 11, 10);
        voice(x, 2, 0, most, (least + 12) / 2, 30, 10);
        voice(x, 2, 0, most - 13, most / 2, 30, 10);
        voice(x, 3, 0, most - 13, least, 40, 10);
        voice(x, 4, 2, 1 << 29, ((1 << 30) + 30 - 4) * 3, 50, 12, 11, 10);
        voice(x, 5, 1, least, (most + 16) / 2 * 2, 60, 11, 30, 10);
    }

    /** By 2 and by (s - n), cut toward 0. */
    private static void cutToward0() {
        StrengthHouse x = sixKinds();
        voice(x, 2, 0, -14, 0, 30, 10);
        voice(x, 2, 0, -15, -1, 30, 10);
        voice(x, 2, 0, -16, -1, 30, 10);
        voice(x, 2, 0, -17, -2, 30, 10);
        voice(x, 0, 3, 10, 0, 13);
        voice(x, 0, 3, 11, 1, 13);
        voice(x, 0, 3, -10, 0, 13);
        voice(x, 0, 3, -11, -1, 13);
        voice(x, 0, 3, -21, -1, 13);
        voice(x, 0, 3, -22, -2, 13);
    }

    /** PARTED if s - n is 0; just beside it it is 1, or -1. */
    private static void parted() {
        for (int size = 3; size <= 7; size++) {
            for (int kind = 0; kind < 6; kind++) {
                StrengthHouse x = new StrengthHouse();
                for (int i = 0; i < 5; i++) {
                    Due.piece(x, 0, 0, 50, 1, 2);
                }
                Due.piece(x, kind, 0, size, 1, 2);
                int told = size == 5 ? Due.PARTED : tells(kind, size, 100);
                Due.due("size " + size + ", KIND " + kind, x.voice(5, 3, 100), told);
                Due.due("told", x.told(6), size == 5 ? 1 : 0);
                for (int act = 0; act < 3; act++) {
                    Due.due("other acts", x.voice(5, act, 0) > Due.PARTED ? 1 : 0, 1);
                }
            }
        }
        StrengthHouse x = new StrengthHouse();
        Due.piece(x, 0, 0, 1, 1, 2);
        Due.piece(x, 0, 0, 1, 1, 2);
        Due.piece(x, 0, 0, 1, 1, 2);
        int least = Integer.MIN_VALUE;
        Due.due("by 1", x.voice(0, 3, least), least);
        Due.due("by 0", x.voice(1, 3, least), Due.PARTED);
        Due.due("by 0", x.voice(1, 3, 0), Due.PARTED);
        Due.due("by -1, which wraps", x.voice(2, 3, least), least);
        Due.due("by -1", x.voice(2, 3, least + 1), Integer.MAX_VALUE);
    }

    /** What piece 5 of this KIND tells. */
    private static int tells(int kind, int s, int x) {
        int own = x / (s - 5);
        if (kind == 2) {
            return own + (1 + s) / 2 * 2 - 5;
        }
        return kind == 5 ? (x - 1 + s) / 2 * 2 - (own + s / 2 * 2 - 5) : own;
    }

    /** One that answers an ERROR changes nothing but what told() tells. */
    private static void partedLeavesTheTrace() {
        for (int kind : new int[] {0, 2, 5}) {
            StrengthHouse x = new StrengthHouse();
            Due.piece(x, 1, 0, 9, 1, 2);
            Due.piece(x, kind, 0, 1, 1, 2);
            Due.due("PARTED, no voice ahead", x.voice(1, 3, 5), Due.PARTED);
            Due.due("no TRACE", x.count(6), 0);
            Due.due("no TRACE", x.body(0), Due.NONE);
            voice(x, 0, 1, 5, 31, 20, 11, 10);
            Due.due("PARTED", x.voice(1, 3, 5), Due.PARTED);
            Due.due("THE TRACE stays", x.count(6), 3);
            int[] bodies = {20, 11, 10, Due.NONE};
            for (int i = 0; i < 4; i++) {
                Due.due("THE TRACE stays", x.body(i), bodies[i]);
            }
        }
    }

    /** THE TRACE is of the latest voice() alone. */
    private static void theTrace() {
        StrengthHouse x = sixKinds();
        Due.due("none yet", x.count(6), 0);
        Due.due("none yet", x.body(0), Due.NONE);
        voice(x, 5, 3, 50, 49, 61, 60, 11, 30, 10, 31, 13, 12, 60, 11, 30, 10);
        voice(x, 0, 0, 0, 11, 10);
        for (int i = 1; i < 31; i++) {
            Due.due("nothing of the one ahead", x.body(i), Due.NONE);
        }
    }
}
