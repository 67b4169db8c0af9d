import java.util.ArrayList;
import java.util.List;

/** Promises 32 and 33, against classes that Java itself lets speak. */
public final class VoiceTest {
    public static void main(String[] args) {
        voices();
        wrongOnes();
        parted();
        Due.finish();
    }

    private static final List<Integer> BEGUN = new ArrayList<>();

    private static class Said {
        final int n;
        final int s;

        Said(int n, int s) {
            this.n = n;
            this.s = s;
        }

        int runs(int x) {
            BEGUN.add(10);
            return x + s;
        }

        int reads(int x) {
            BEGUN.add(11);
            return runs(x) * 2;
        }

        int judges(int x) {
            BEGUN.add(12);
            return reads(x) - n;
        }

        int tells(int x) {
            BEGUN.add(13);
            return x / (s - n);
        }
    }

    private static class Pulled extends Said {
        Pulled(int n, int s) {
            super(n, s);
        }

        @Override int reads(int x) {
            BEGUN.add(20);
            return super.reads(x) + 3;
        }

        @Override int judges(int x) {
            BEGUN.add(21);
            return super.judges(x) ^ s;
        }
    }

    private static class Bent extends Said {
        Bent(int n, int s) {
            super(n, s);
        }

        @Override int runs(int x) {
            BEGUN.add(30);
            return super.runs(x) / 2;
        }

        @Override int tells(int x) {
            BEGUN.add(31);
            return super.tells(x) + judges(1);
        }
    }

    private static final class Slow extends Pulled {
        Slow(int n, int s) {
            super(n, s);
        }

        @Override int runs(int x) {
            BEGUN.add(40);
            return 0 - super.runs(x);
        }

        @Override int judges(int x) {
            BEGUN.add(41);
            return super.judges(x) + runs(2);
        }
    }

    private static final class Hard extends Said {
        Hard(int n, int s) {
            super(n, s);
        }

        @Override int judges(int x) {
            BEGUN.add(50);
            return super.judges(x) * 3;
        }
    }

    private static final class Notched extends Bent {
        Notched(int n, int s) {
            super(n, s);
        }

        @Override int reads(int x) {
            BEGUN.add(60);
            return super.reads(x - 1);
        }

        @Override int tells(int x) {
            BEGUN.add(61);
            return reads(x) - super.tells(x);
        }
    }

    private static Said said(int kind, int n, int s) {
        switch (kind) {
            case 0: return new Said(n, s);
            case 1: return new Pulled(n, s);
            case 2: return new Bent(n, s);
            case 3: return new Slow(n, s);
            case 4: return new Hard(n, s);
            default: return new Notched(n, s);
        }
    }

    private static int say(Said piece, int act, int x) {
        BEGUN.clear();
        switch (act) {
            case 0: return piece.runs(x);
            case 1: return piece.reads(x);
            case 2: return piece.judges(x);
            default: return piece.tells(x);
        }
    }

    private static void voices() {
        int[] sizes = {9, 2, 99, 50, 3, 10, 31, 6};
        int[] numbers = {0, 7, -13, Integer.MAX_VALUE, Integer.MIN_VALUE, 1 << 30};
        for (int shift = 0; shift < 6; shift++) {
            StrengthHouse x = new StrengthHouse();
            for (int n = 0; n < sizes.length; n++) {
                int kind = (n + shift) % 6;
                Due.piece(x, kind, 0, sizes[n], 1, 2);
                for (int act = 0; act < 4; act++) {
                    speaks(x, said(kind, n, sizes[n]), n, act, numbers[(n + act + shift) % numbers.length]);
                }
            }
        }
    }

    private static void speaks(StrengthHouse x, Said piece, int n, int act, int number) {
        int want = say(piece, act, number);
        Due.due("voice " + n + " " + act + " " + number, x.voice(n, act, number), want);
        Due.due("bodies", x.count(6), BEGUN.size());
        for (int i = 0; i < BEGUN.size(); i++) {
            Due.due("body " + i, x.body(i), BEGUN.get(i));
        }
        Due.due("none behind", x.body(BEGUN.size()), Due.NONE);
    }

    private static void wrongOnes() {
        StrengthHouse x = new StrengthHouse();
        Due.piece(x, 5, 0, 10, 1, 2);
        x.voice(0, 1, 5);
        Due.due("act 4", x.voice(0, 4, 5), Due.BEYOND);
        Due.due("act -1", x.voice(0, -1, 5), Due.BEYOND);
        Due.due("piece 1", x.voice(1, 0, 5), Due.BEYOND);
        Due.due("piece -1", x.voice(-1, 0, 5), Due.BEYOND);
        Due.due("the trace stays", x.count(6), 4);
        Due.due("the trace stays", x.body(0), 60);
        Due.due("body -1", x.body(-1), Due.NONE);
        Due.due("body 4", x.body(4), Due.NONE);
    }

    private static void parted() {
        StrengthHouse x = new StrengthHouse();
        Due.piece(x, 0, 0, 1, 1, 2);
        Due.piece(x, 5, 0, 1, 1, 2);
        Due.piece(x, 0, 0, 1, 1, 2);
        x.voice(0, 1, 5);
        Due.due("parted", x.voice(1, 3, 5), Due.PARTED);
        Due.due("told", x.told(6), 1);
        Due.due("an error leaves the trace", x.count(6), 2);
        Due.due("an error leaves the trace", x.body(0), 11);
        Due.due("other acts", x.voice(1, 0, 5), 3);
        Due.due("the least by -1", x.voice(2, 3, Integer.MIN_VALUE), Integer.MIN_VALUE);
        Due.due("a number that looks like an error", x.voice(0, 0, -1000002), -1000001);
        Due.due("is none", x.told(1), 0);
    }
}
