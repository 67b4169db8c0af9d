import java.util.ArrayList;
import java.util.List;

/** VOICES (Terms 5) as Java's own classes: each KIND under the one that it is under. */
class VoiceByHand {
    final List<Integer> begun = new ArrayList<>();
    private int n;
    int s;

    static VoiceByHand of(int kind, int size, int number) {
        VoiceByHand voice;
        switch (kind) {
            case 0: voice = new VoiceByHand(); break;
            case 1: voice = new Pulled(); break;
            case 2: voice = new Bent(); break;
            case 3: voice = new Slow(); break;
            case 4: voice = new Hard(); break;
            default: voice = new Notched(); break;
        }
        voice.s = size;
        voice.n = number;
        return voice;
    }

    int runs(int x) {
        begun.add(10);
        return x + s;
    }

    int reads(int x) {
        begun.add(11);
        return runs(x) * 2;
    }

    int judges(int x) {
        begun.add(12);
        return reads(x) - n;
    }

    int tells(int x) {
        begun.add(13);
        if (s == n) {
            throw new IllegalStateException("parted");
        }
        return x / (s - n);
    }

    private static class Pulled extends VoiceByHand {
        @Override
        int reads(int x) {
            begun.add(20);
            return super.reads(x) + 3;
        }

        @Override
        int judges(int x) {
            begun.add(21);
            return super.judges(x) ^ s;
        }
    }

    private static class Bent extends VoiceByHand {
        @Override
        int runs(int x) {
            begun.add(30);
            return super.runs(x) / 2;
        }

        @Override
        int tells(int x) {
            begun.add(31);
            return super.tells(x) + judges(1);
        }
    }

    private static final class Slow extends Pulled {
        @Override
        int runs(int x) {
            begun.add(40);
            return 0 - super.runs(x);
        }

        @Override
        int judges(int x) {
            begun.add(41);
            return super.judges(x) + runs(2);
        }
    }

    private static final class Hard extends VoiceByHand {
        @Override
        int judges(int x) {
            begun.add(50);
            return super.judges(x) * 3;
        }
    }

    private static final class Notched extends Bent {
        @Override
        int reads(int x) {
            begun.add(60);
            return super.reads(x - 1);
        }

        @Override
        int tells(int x) {
            begun.add(61);
            return reads(x) - super.tells(x);
        }
    }
}
