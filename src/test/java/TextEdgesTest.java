import java.util.ArrayList;
import java.util.List;
import java.util.regex.Matcher;
import java.util.regex.Pattern;

/** What PROGRAMS are as texts (Terms 2, promises 8 to 10) at the edges. */
public final class TextEdgesTest {
    public static void main(String[] args) {
        limits();
        bytesOfAWord();
        theTape();
        thePlaceOfAProgram();
        wordsAsFarAsTheyGo();
        digitsAsFarAsTheyGo();
        blanks();
        bytesThatStandByThemselves();
        oneToFourDigits();
        lastParts();
        tooEarly();
        eachBeginning();
        aFaultLeavesTheOneAhead();
        nothingIsLeftOfTheTapeAhead();
        anyTexts();
        Due.finish();
    }

    /** LIMIT, TOP 0 .. 99999, LONG 0 .. 999, n 0 .. 24, DELAY 0 .. 5: what it was. */
    private static void limits() {
        int[] most = {99999, 999, 99999, 24, 5};
        int[] first = {99999, 999, 99999, 0, 0};
        for (int what = 0; what < 5; what++) {
            StrengthHouse x = new StrengthHouse();
            Due.due("one too much", x.limit(what, most[what] + 1), Due.BEYOND);
            Due.due("one too few", x.limit(what, -1), Due.BEYOND);
            Due.due("as at first", x.limit(what, most[what] - 1), first[what]);
            Due.due("one less than the most", x.limit(what, most[what]), most[what] - 1);
            Due.due("one too much", x.limit(what, most[what] + 1), Due.BEYOND);
            Due.due("the most stays", x.limit(what, 1), most[what]);
            Due.due("1", x.limit(what, 0), 1);
            Due.due("one too few", x.limit(what, -1), Due.BEYOND);
            Due.due("0 stays", x.limit(what, 0), 0);
            for (int other = 0; other < 5; other++) {
                Due.due("each by itself", x.limit(other, 0), other == what ? 0 : first[other]);
            }
        }
        StrengthHouse x = new StrengthHouse();
        Due.due("what -1", x.limit(-1, 0), Due.BEYOND);
        Due.due("what 4", x.limit(4, 5), 0);
        Due.due("what 5", x.limit(5, 0), Due.BEYOND);
    }

    /** The n lowest bytes (1 .. 8) of a word, the lowest first. */
    private static void bytesOfAWord() {
        long read = 0x64616572L;
        StrengthHouse x = new StrengthHouse();
        Due.due("n 0", x.feed(read, 0), Due.BEYOND);
        Due.due("n 9", x.feed(read, 9), Due.BEYOND);
        Due.due("nothing came", x.count(4), 0);
        int all = 0;
        for (int n = 1; n <= 8; n++) {
            all += n;
            Due.due("n " + n, x.feed(-1L, n), all);
        }
        Due.due("bytes above 127", x.program(0), -10);
        Due.due("n 4", x.feed(read | 0x2020202000000000L, 4), 4);
        Due.due("the lowest 4", x.program(0), 1);
        Due.due("n 3", x.feed(read, 3), 3);
        Due.due("\"rea\"", x.program(0), -10);
        Due.due("n 1", x.feed(0x7272L, 1), 1);
        Due.due("n 3", x.feed(0x646165L, 3), 4);
        Due.due("\"read\" in two", x.program(0), 1);
        // "go 10;go" and " 9;read ": the eighth byte is the highest one.
        Due.due("n 8", x.feed(0x6f673b3031206f67L, 8), 8);
        Due.due("n 8", x.feed(0x20646165723b3920L, 8), 16);
        Due.due("two whole words", x.program(0), 3);
        Due.due("n 5", x.feed(read + (0x80L << 32), 5), 5);
        Due.due("a byte of 128", x.program(0), -10 - 4);
    }

    /** THE TAPE (bytes, at most 64): all n of them come, or none. */
    private static void theTape() {
        for (int n = 1; n <= 8; n++) {
            StrengthHouse x = new StrengthHouse();
            while (x.count(4) < 64 - n) {
                x.feed(' ', 1);
            }
            if (n < 8) {
                Due.due("one too many", x.feed(0x2020202020202020L, n + 1), Due.FULL);
            }
            Due.due("none came", x.count(4), 64 - n);
            Due.due("as many as it takes", x.feed(0x2020202020202020L, n), 64);
            Due.due("one more", x.feed(' ', 1), Due.FULL);
            Due.due("eight more", x.feed(' ', 8), Due.FULL);
            Due.due("64", x.count(4), 64);
            Due.due("a text of blanks ends too early", x.program(0), -10 - 64);
            Due.due("it is empty", x.count(4), 0);
            Due.due("it takes again", x.feed(0x64616572L, 4), 4);
            Due.due("a text", x.program(0), 1);
        }
        // A text whose last byte is the 64th.
        StrengthHouse x = new StrengthHouse();
        String text = "go1;go1;go1;go1;go1;go1;go1;go1;go1;go1;go1;go1;go1;go1;go1;read";
        Due.due("64 bytes", text.length(), 64);
        Due.due("16 parts", Due.program(x, 0, text), 16);
        text = "read;go1;go1;go1;go1;go1;go1;go1;go1;go1;go1;go1;last go1,go1,go";
        Due.due("64 bytes", text.length(), 64);
        Due.due("too early at 64", Due.program(x, 0, text), -10 - 64);
        Due.due("no whole word at 62", Due.program(x, 0, text.substring(0, 63)), -10 - 62);
        Due.due("too early at 62", Due.program(x, 0, text.substring(0, 62)), -10 - 62);
        Due.due("a text of 61", Due.program(x, 0, text.substring(0, 61)), 14);
    }

    /** A PROGRAM (0 .. 3; in place of one ahead); THE TAPE stays if it is beyond. */
    private static void thePlaceOfAProgram() {
        StrengthHouse x = new StrengthHouse();
        Due.piece(x, 0, 0, 10, 0, 10);
        Due.feed(x, "go 3");
        Due.due("-1", x.program(-1), Due.BEYOND);
        Due.due("4", x.program(4), Due.BEYOND);
        Due.due("the tape stays", x.count(4), 4);
        Due.due("none is there", x.count(3), 0);
        Due.due("0", x.program(0), 1);
        Due.due("the tape is empty", x.count(4), 0);
        for (int program = 1; program <= 3; program++) {
            Due.due("one", Due.program(x, program, "go " + program + ";read;read"), 3);
            Due.due("how many", x.count(3), program + 1);
        }
        int[] stretches = {3, 1, 2, 3};
        for (int program = 0; program <= 3; program++) {
            Due.due("run", x.run(program, 0), 0);
            Due.due("its stretch", x.ran(2), stretches[program]);
            Due.due("its parts", x.ran(3), program == 0 ? 1 : 3);
        }
        Due.due("in place of one ahead", Due.program(x, 2, "go 7"), 1);
        Due.due("how many", x.count(3), 4);
        Due.due("run", x.run(2, 0), 0);
        Due.due("the new one", x.ran(2), 7);
        Due.due("without parts of the one ahead", x.ran(3), 1);
        Due.due("the same text is there once", x.program(2), -10);
        Due.due("run", x.run(2, 0), 0);
        Due.due("the one ahead stays", x.ran(2), 7);
    }

    private static void is(String text, int want) {
        StrengthHouse x = new StrengthHouse();
        Due.due(text, Due.program(x, 0, text), want);
        Due.due(text + ": the tape", x.count(4), 0);
        Due.due(text + ": programs", x.count(3), want < 0 ? 0 : 1);
        Due.due(text + ": no ERROR", x.told(1) + x.told(2) + x.told(3), 0);
    }

    private static void fault(String text, int place) {
        is(text, -10 - place);
    }

    /** Words are of the letters a to z, as far as they go. */
    private static void wordsAsFarAsTheyGo() {
        for (String word : new String[] {"go", "load", "hold", "back", "till"}) {
            is(word + "1", 1);
            is(word + " 1", 1);
            fault(word, word.length());
            fault(word + "a1", 0);
            fault(word + "z 1", 0);
            fault(word + "`1", word.length());
            fault(word + "{1", word.length());
            fault("a" + word + "1", 0);
            fault("z" + word + "1", 0);
            fault("`" + word + "1", 0);
            fault("{" + word + "1", 0);
            fault(word.substring(1) + "1", 0);
            fault(word.substring(0, word.length() - 1) + "1", 0);
            fault(word.toUpperCase(java.util.Locale.ROOT) + "1", 0);
            fault(word + " a", word.length() + 1);
            fault(word + " read", word.length() + 1);
            fault("read;" + word + word + "1", 5);
            fault("read;" + word + " " + word + "1", 6 + word.length());
        }
        is("read", 1);
        fault("reads", 0);
        fault("rea", 0);
        fault("re ad", 0);
        fault("Read", 0);
        fault("reaD", 0);
        fault("read1", 4);
        fault("read 1", 5);
        fault("readgo1", 0);
        fault("read go1", 5);
        fault("last", 0);
        fault("lasts", 0);
        fault("read;las", 5);
        fault("read;lastgo1", 5);
        fault("read;lasta go1", 5);
        fault("read;last1", 9);
        is("read;last go1", 2);
    }

    /** Numbers of digits, as far as they go. */
    private static void digitsAsFarAsTheyGo() {
        is("go0", 1);
        is("go9", 1);
        fault("go/", 2);
        fault("go:", 2);
        fault("go/1", 2);
        fault("go:1", 2);
        fault("go1/", 3);
        fault("go1:", 3);
        fault("go1a", 3);
        fault("go1read", 3);
        fault("go1 2", 4);
        fault("go12 34;read", 5);
        fault("go1.5", 3);
        fault("go-1", 2);
        fault("go+1", 2);
        fault("1", 0);
        fault("1go", 0);
        fault("12345", 0);
    }

    /** A NUMBER of 1 to 4 digits. */
    private static void oneToFourDigits() {
        String[] numbers = {"0", "9", "00", "99", "000", "999", "0000", "0001", "9999"};
        for (String n : numbers) {
            is("hold" + n, 1);
            is("hold  " + n + "  ;read", 2);
        }
        fault("hold;", 4);
        fault("hold 00000", 5);
        fault("hold 00001", 5);
        fault("hold 10000", 5);
        fault("hold 99999", 5);
        fault("hold 2147483648", 5);
        fault("hold 4294967297", 5);
        fault("hold10000", 4);
        fault("read;hold 1;hold 12345;hold 1", 17);
        StrengthHouse x = new StrengthHouse();
        Due.piece(x, 0, 0, 10, 1, 2);
        int[] want = {0, 9, 0, 99, 0, 999, 0, 1, 9999};
        for (int i = 0; i < numbers.length; i++) {
            Due.due("hold", Due.program(x, 0, "hold" + numbers[i]), 1);
            Due.due("run", x.run(0, 0), 0);
            Due.due("ticks of hold " + numbers[i], x.ran(1), want[i]);
        }
    }

    /** Between them there may be blanks (32). */
    private static void blanks() {
        is("go 1", 1);
        is("go     1", 1);
        is("go1 ;  read", 2);
        is("read;read", 2);
        is("read ;  last   read  ,   read", 3);
        fault("g o1", 0);
        fault("go1 0", 4);
        fault("re ad", 0);
        fault("read;la st read", 5);
        int[] others = {0, 1, 9, 10, 13, 31, 33, 127, 128, 160, 255};
        for (int other : others) {
            String b = String.valueOf((char) other);
            fault("go" + b + "1", 2);
            fault("go1" + b + ";read", 3);
            fault("go1;" + b + "read", 4);
            fault(b + "read", 0);
            fault("read" + b, 4);
        }
    }

    /** Any other byte stands by itself. */
    private static void bytesThatStandByThemselves() {
        is("read;read", 2);
        fault("read;;read", 5);
        fault("read,,read", 4);
        fault("read;,read", 5);
        fault("read:read", 4);
        fault("read<read", 4);
        fault("read;last read+read", 14);
        fault("read;last read-read", 14);
        is("read;last read,read", 3);
        fault(";", 0);
        fault(",", 0);
        fault(";read", 0);
        fault(" ;read", 1);
        for (int b = 0; b < 256; b++) {
            char sign = (char) b;
            boolean isWord = b >= 'a' && b <= 'z';
            fault("read" + sign + sign + "5", isWord ? 0 : sign == ' ' ? 6 : sign == ';' ? 5 : 4);
        }
    }

    /** PART { ; PART } and, perhaps, ; last PART { , PART }. */
    private static void lastParts() {
        is("read;last read", 2);
        is("read;read;last read,go 1,load 2,hold 3,back 4,till 5", 8);
        is("go1;load2;hold3;back4;read;till5;last read", 7);
        fault("last read", 0);
        fault("read,read", 4);
        fault("read last read", 5);
        fault("read,last read", 4);
        fault("read;last;read", 9);
        fault("read;last,read", 9);
        fault("read;last last read", 10);
        fault("read;last read;read", 14);
        fault("read;last read;last read", 14);
        fault("read;last read,last read", 15);
        fault("read;last read read", 15);
        fault("read;last read,,read", 15);
        fault("read;last read,;read", 15);
        fault("read;last 5", 10);
    }

    /** How many bytes there are, if it ends too early. */
    private static void tooEarly() {
        fault("", 0);
        fault(" ", 1);
        fault("   ", 3);
        fault("go", 2);
        fault("go ", 3);
        fault("go   ", 5);
        fault("read;", 5);
        fault("read; ", 6);
        fault("go1;", 4);
        fault("read;last", 9);
        fault("read;last ", 10);
        fault("read;last go", 12);
        fault("read;last go ", 13);
        fault("read;last read,", 15);
        fault("read;last read, ", 16);
        is("go1", 1);
        is("go1 ", 1);
        is("read ", 1);
        is("read;last read ", 2);
    }

    /** Each beginning of a text is a text itself, or ends too early, or in a word that isn't whole. */
    private static void eachBeginning() {
        String text = "go 10;load20;hold 3;back4;read;till 5;last read,go 1";
        for (int n = 0; n <= text.length(); n++) {
            int want = byGrammar(text.substring(0, n));
            is(text.substring(0, n), want);
        }
        Due.due("the whole", byGrammar(text), 8);
        Due.due("the grammar's fault", byGrammar("read;no"), -10 - 5);
    }

    /** -10 less its FAULT (the one ahead stays; THE TAPE is empty, too). */
    private static void aFaultLeavesTheOneAhead() {
        StrengthHouse x = new StrengthHouse();
        Due.piece(x, 0, 0, 10, 0, 10);
        Due.due("one", Due.program(x, 1, "go 3;read;last go 1,read"), 4);
        for (String bad : new String[] {"go 9;go", "go 9;read;read;last go 2,", "go 9;x", "", "read;last read;"}) {
            Due.due("a fault", Due.program(x, 1, bad) < 0 ? 1 : 0, 1);
            Due.due("the tape is empty", x.count(4), 0);
            Due.due("one is there", x.count(3), 1);
            Due.due("run", x.run(1, 0), 0);
            Due.same("the one ahead", Due.readings(x, 0), "3:3 4:4");
            Due.due("its parts", x.ran(3), 2);
            Due.due("a fault elsewhere", Due.program(x, 2, bad) < 0 ? 1 : 0, 1);
            Due.due("is no program", x.run(2, 0), Due.NONE);
        }
    }

    /** What stood on the tape ahead doesn't go on behind a shorter text. */
    private static void nothingIsLeftOfTheTapeAhead() {
        StrengthHouse x = new StrengthHouse();
        Due.due("a long one", Due.program(x, 0, "hold 9999;read;last read,read"), 4);
        Due.due("a short one", Due.program(x, 0, "hold 9"), 1);
        Due.piece(x, 0, 0, 10, 1, 2);
        Due.due("run", x.run(0, 0), 0);
        Due.due("9 alone", x.ran(1), 9);
        Due.due("too early", Due.program(x, 0, "hold "), -10 - 5);
        Due.due("too early", Due.program(x, 0, "hold"), -10 - 4);
        Due.due("no whole word", Due.program(x, 0, "hol"), -10);
        Due.due("nothing", x.program(0), -10);
    }

    private static void anyTexts() {
        String[] bits = {"go", "load", "hold", "back", "read", "till", "last", "1", "12", "1234", "12345", ";", ";",
            ",", ",", " ", " ", "x", "go 1", "read", ";read", ";last ", ",read", "lastread", "!", "\u00ff"};
        long seed = 5;
        int good = 0;
        for (int round = 0; round < 20000; round++) {
            StringBuilder text = new StringBuilder(round % 2 == 0 ? "read" : "");
            for (int i = 0; i < 1 + round % 9; i++) {
                seed = seed * 6364136223846793005L + 1442695040888963407L;
                text.append(bits[(int) ((seed >>> 33) % bits.length)]);
            }
            if (text.length() <= 64) {
                StrengthHouse x = new StrengthHouse();
                int want = byGrammar(text.toString());
                good += want > 0 ? 1 : 0;
                Due.due(text.toString(), Due.program(x, 0, text.toString()), want);
            }
        }
        Due.due("some are texts", good > 300 ? 1 : good, 1);
    }

    private static final Pattern MARK = Pattern.compile("[a-z]+|[0-9]+|[^ ]", Pattern.DOTALL);
    private static final Pattern TEXT = Pattern.compile("(?:[glhbt]n|r)(?:;(?:[glhbt]n|r))*(?:;L(?:[glhbt]n|r)(?:,(?:[glhbt]n|r))*)?");

    /** The same by the grammar itself: a beginning on which some text goes on is one that hits its end. */
    private static int byGrammar(String text) {
        Matcher marks = MARK.matcher(text);
        StringBuilder signs = new StringBuilder();
        List<Integer> places = new ArrayList<>();
        while (marks.find()) {
            signs.append(sign(marks.group()));
            places.add(marks.start());
        }
        for (int n = 1; n <= signs.length(); n++) {
            Matcher m = TEXT.matcher(signs.substring(0, n));
            if (!m.matches() && !m.hitEnd()) {
                return -10 - places.get(n - 1);
            }
        }
        if (!TEXT.matcher(signs).matches()) {
            return -10 - text.length();
        }
        return signs.toString().replaceAll("[^glhbtr]", "").length();
    }

    private static char sign(String mark) {
        switch (mark) {
            case "go": return 'g';
            case "load": return 'l';
            case "hold": return 'h';
            case "back": return 'b';
            case "till": return 't';
            case "read": return 'r';
            case "last": return 'L';
            case ";":
            case ",": return mark.charAt(0);
            default: return mark.matches("[0-9]{1,4}") ? 'n' : 'X';
        }
    }
}
