/** Promises 39 to 42. */
public final class CheckTest {
    public static void main(String[] args) {
        waiting();
        checks();
        nothingChanges();
        counts();
        told();
        Due.finish();
    }

    private static void waiting() {
        StrengthHouse x = new StrengthHouse();
        for (int i = 1; i <= 48; i++) {
            Due.due("tell", x.tell(-i), i);
        }
        Due.due("full", x.tell(0), Due.FULL);
        Due.due("they wait", x.count(5), 48);
        Due.due("beyond", x.check(0, 0), Due.BEYOND);
        Due.due("none waits", x.count(5), 0);
        Due.due("tell", x.tell(7), 1);
        Due.piece(x, 0, 0, 10, 1, 2);
        Due.due("no program", x.check(3, 0), Due.NONE);
        Due.due("none waits", x.count(5), 0);
        x.tell(1);
        Due.due("program 4", x.check(4, 0), Due.BEYOND);
        Due.due("program -1", x.check(-1, 0), Due.BEYOND);
        Due.due("piece ahead of no program", x.check(0, 1), Due.BEYOND);
        Due.due("none waits", x.count(5), 0);
    }

    private static int check(StrengthHouse x, int... numbers) {
        for (int v : numbers) {
            x.tell(v);
        }
        int answered = x.check(1, 0);
        Due.due("none waits", x.count(5), 0);
        return answered;
    }

    private static void checks() {
        StrengthHouse x = new StrengthHouse();
        Due.piece(x, 0, 0, 10, 0, 10, 20);
        Due.program(x, 1, "go 5;read;go 4;read");
        Due.due("as they are", check(x, 5, 5, 9, 9), 0);
        Due.due("the first isn't", check(x, 4, 5, 9, 9), 1);
        Due.due("the second isn't", check(x, 5, 4, 9, 9), 2);
        Due.due("the third isn't", check(x, 5, 5, 5, 9), 3);
        Due.due("the fourth isn't", check(x, 5, 5, 9, 5), 4);
        Due.due("one lacks", check(x, 5, 5, 9), 4);
        Due.due("all lack", check(x), 1);
        Due.due("one is too many", check(x, 5, 5, 9, 9, 0), 5);
        Due.due("two are too many", check(x, 5, 5, 9, 9, 0, 0), 5);
        x.limit(3, 2);
        x.limit(2, 4);
        Due.due("as meters say", check(x, 5, -2, 9, -1), 0);
        x.limit(3, 0);
        x.limit(2, 99999);
        x.limit(4, 5);
        x.limit(1, 3);
        Due.program(x, 1, "go 5;read;last read");
        Due.due("stopped", check(x, 4, 0), 0);
        x.limit(4, 0);
        Due.due("stopped", check(x, 4, 4), 0);
        Due.program(x, 1, "read;go 1;read;go 1;read;go 1;read");
        x.limit(4, 1);
        Due.due("four", check(x, 0, 0, 1, 1, 2, 2, 3, 3), 0);
        Due.due("the eighth isn't", check(x, 0, 0, 1, 1, 2, 2, 3, 2), 8);
        Due.due("the seventh isn't", check(x, 0, 0, 1, 1, 2, 2, 2, 3), 7);
        x.limit(4, 0);
        Due.program(x, 1, "go 1");
        Due.due("no readings", check(x), 0);
        Due.due("too many", check(x, 1), 1);
    }

    private static void nothingChanges() {
        StrengthHouse x = new StrengthHouse();
        Due.piece(x, 3, 0, 10, 0, 10, 20);
        Due.program(x, 0, "hold 4;read");
        Due.program(x, 1, "hold 9;read;go 99");
        x.run(0, 0);
        Due.due("check", check(x, 1, 1), 0);
        Due.due("why", x.ran(0), 0);
        Due.due("ticks", x.ran(1), 5);
        Due.same("readings", Due.readings(x, 0), "0:0");
        Due.due("check", check(x, 1, 1), 0);
    }

    private static void counts() {
        StrengthHouse x = new StrengthHouse();
        Due.piece(x, 0, 0, 10, 0, 10, 20);
        Due.piece(x, 0, 0, 10, 0, 10, 20);
        Due.program(x, 3, "go 5;read;go 4;read;read");
        x.run(3, 0);
        x.run(3, 1);
        x.enter(0, 0, 0);
        x.enter(0, 0, 0);
        x.enter(0, 0, 0);
        x.back(0, 2);
        Due.feed(x, "abcde");
        x.tell(4);
        x.tell(4);
        x.tell(4);
        x.tell(4);
        x.voice(0, 2, 0);
        int[] want = {2, 3, 1, 1, 5, 4, 3, 6};
        for (int what = 0; what < want.length; what++) {
            Due.due("count " + what, x.count(what), want[what]);
        }
        Due.due("count 8", x.count(8), Due.BEYOND);
        Due.due("count -1", x.count(-1), Due.BEYOND);
    }

    private static void told() {
        StrengthHouse x = new StrengthHouse();
        for (int k = 1; k <= 6; k++) {
            Due.due("told", x.told(k), 0);
        }
        Due.due("told 0", x.told(0), Due.BEYOND);
        Due.due("told 7", x.told(7), Due.BEYOND);
        Due.due("told -1", x.told(-1), Due.BEYOND);
        Due.due("counted, too", x.told(1), 3);
        x.restore();
        x.restore();
        Due.due("none", x.told(2), 2);
        x.sheet(0, 8, -1);
        Due.due("state", x.told(3), 1);
        for (int i = 0; i < 50; i++) {
            x.tell(0);
        }
        Due.due("full", x.told(4), 2);
        Due.piece(x, 0, 0, 1, 1, 2);
        x.as(0, 5);
        Due.due("kind", x.told(5), 1);
        Due.piece(x, 0, 0, 1, 1, 2);
        x.voice(1, 3, 2);
        Due.due("parted", x.told(6), 1);
        x.spent(9, 0);
        Due.due("in longs likewise", x.told(1), 4);
    }
}
