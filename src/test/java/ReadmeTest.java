import java.io.IOException;
import java.nio.file.Files;
import java.nio.file.Path;
import java.util.List;
import java.util.stream.Collectors;

/** README.md: its example stands here, line by line, and answers what it says there. */
public final class ReadmeTest {
    public static void main(String[] args) throws IOException {
        example();
        sameLines();
        eachCallIsNamed();
        eachTestIsNamed();
        Due.finish();
    }

    private static void example() {
        StrengthHouse x = new StrengthHouse();

        // A piece whose answers are 0, 50, 90 at the stretches 0, 10, 20: they stand in a sheet first.
        x.sheet(0, 16, 3);
        x.put(0, 1, 50);
        x.put(0, 2, 90);
        int piece = x.piece(0, 0, 10, 0, 3);      // of kind PIECE, lot 0, size 10: its number, 0

        // A program: its text comes to the tape, up to eight bytes by a call, the lowest byte first.
        String text = "go 5;read;go 5;read;go 9;read;last back 9,read";
        for (int i = 0; i < text.length(); i++) {
            x.feed(text.charAt(i), 1);
        }
        int parts = x.program(0);                 // 8 (-10 less the place of the fault, if there is one)

        // A run of it on the piece, and what was read.
        int why = x.run(0, piece);                // 0: all parts were done
        int ticks = x.ran(1);                     // 32
        int stretch = x.reading(piece, 2, 0);     // 19
        int load = x.reading(piece, 2, 1);        // 86

        // The line on which most readings lie, where the trace leaves it by more than 2, the greatest.
        int lying = x.line(piece, 2);             // 3
        int yield = x.yields(piece, 2);           // 2: the third reading
        int top = x.top(piece);                   // 86

        // A call that can't be answered tells an error, and is counted.
        int none = x.breaks(piece, 50);           // -1000002: NONE
        int counted = x.told(2);                  // 1
        // Here the example ends.

        Due.due("piece", piece, 0);
        Due.due("parts", parts, 8);
        Due.due("why", why, 0);
        Due.due("ticks", ticks, 32);
        Due.due("stretch", stretch, 19);
        Due.due("load", load, 86);
        Due.due("lying", lying, 3);
        Due.due("yield", yield, 2);
        Due.due("top", top, 86);
        Due.due("none", none, Due.NONE);
        Due.due("counted", counted, 1);
    }

    private static Path root() {
        Path source = Path.of(System.getProperty("strength.source")).toAbsolutePath();
        return source.getParent().getParent().getParent().getParent();
    }

    private static String readme() throws IOException {
        return Files.readString(root().resolve("README.md"));
    }

    private static List<String> linesOf(String text) {
        return text.lines().map(String::strip).filter(line -> !line.isEmpty()).collect(Collectors.toList());
    }

    private static String between(String text, String from, String to) {
        int at = text.indexOf(from);
        int end = text.indexOf(to, at + from.length());
        return at < 0 || end < 0 ? "" : text.substring(at + from.length(), end);
    }

    private static void sameLines() throws IOException {
        String here = Files.readString(root().resolve("src/test/java/ReadmeTest.java"));
        String example = between(here, "static void example() {", "// Here the example ends.");
        String shown = between(readme(), "```java\n", "```");
        Due.same("the example", linesOf(shown).toString(), linesOf(example).toString());
    }

    private static void eachCallIsNamed() throws IOException {
        String readme = readme();
        for (java.lang.reflect.Method m : StrengthHouse.class.getDeclaredMethods()) {
            boolean isPublic = java.lang.reflect.Modifier.isPublic(m.getModifiers());
            boolean isNamed = readme.contains("`" + m.getName() + "`");
            Due.due("README names " + m.getName(), !isPublic || isNamed ? 1 : 0, 1);
        }
    }

    private static void eachTestIsNamed() throws IOException {
        String readme = readme();
        try (java.util.stream.Stream<Path> files = Files.list(root().resolve("src/test/java"))) {
            for (Path file : files.collect(Collectors.toList())) {
                String name = file.getFileName().toString().replace(".java", "");
                Due.due("README names " + name, readme.contains(name) ? 1 : 0, 1);
            }
        }
    }
}
