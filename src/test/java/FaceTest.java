import java.io.IOException;
import java.lang.reflect.Constructor;
import java.lang.reflect.Field;
import java.lang.reflect.Method;
import java.lang.reflect.Modifier;
import java.nio.file.Files;
import java.nio.file.Path;
import java.util.Set;
import java.util.TreeSet;

/** The public face, and the rules of LANGUAGE.md that a look at the class can tell. */
public final class FaceTest {
    private static final String[] FACE = {
        "int piece 5", "int pieceIs 2", "int as 2", "int answer 2", "int trace 3", "int reading 3",
        "int limit 2", "int feed 2", "int program 1", "int run 2", "int ran 1", "int line 2",
        "int yields 2", "int top 1", "int breaks 2", "long spent 2", "int number 2", "int curve 3",
        "int odd 3", "int sure 4", "int few 2", "int prove 4", "int led 3", "int enter 3",
        "int entryIs 2", "int back 2", "int book 2", "int hangs 1", "int plates 3", "int drift 1",
        "int voice 3", "int body 1", "int sheet 3", "int put 3", "int move 5", "int image 0",
        "int restore 0", "int tell 1", "int check 2", "int count 1", "int told 1"};

    public static void main(String[] args) throws IOException {
        face();
        inside();
        source();
        Due.finish();
    }

    private static void face() {
        Class<?> house = StrengthHouse.class;
        Set<String> found = new TreeSet<>();
        Set<String> names = new TreeSet<>();
        for (Method m : house.getDeclaredMethods()) {
            if (!Modifier.isPrivate(m.getModifiers())) {
                Due.due(m + " is public", Modifier.isPublic(m.getModifiers()) ? 1 : 0, 1);
                found.add(m.getReturnType() + " " + m.getName() + " " + m.getParameterCount());
                names.add(m.getName());
            }
        }
        Due.same("face", found.toString(), new TreeSet<>(Set.of(FACE)).toString());
        for (Method m : house.getDeclaredMethods()) {
            boolean isShadow = Modifier.isPrivate(m.getModifiers()) && names.contains(m.getName());
            Due.due(m + " has the name of a public one", isShadow ? 1 : 0, 0);
        }
        for (Field f : house.getDeclaredFields()) {
            Due.due(f + " is private", Modifier.isPrivate(f.getModifiers()) ? 1 : 0, 1);
        }
        Due.due("constructors", house.getDeclaredConstructors().length, 1);
        Due.due("final", Modifier.isFinal(house.getModifiers()) ? 1 : 0, 1);
    }

    private static void inside() {
        Class<?>[] classes = StrengthHouse.class.getDeclaredClasses();
        Due.due("some twelve classes", classes.length + 1 <= 12 ? 1 : 0, 1);
        rows(StrengthHouse.class);
        for (Class<?> c : classes) {
            namesInside(c);
            Due.due(c + " is static", Modifier.isStatic(c.getModifiers()) ? 1 : 0, 1);
            Due.due(c + " is public", Modifier.isPublic(c.getModifiers()) ? 1 : 0, 0);
            rows(c);
        }
    }

    /** No private method, of a class inside neither, bears the name of a public one. */
    private static void namesInside(Class<?> c) {
        for (Method m : c.getDeclaredMethods()) {
            for (String one : FACE) {
                boolean isShadow = Modifier.isPrivate(m.getModifiers()) && one.split(" ")[1].equals(m.getName());
                Due.due(m + " has the name of a public one", isShadow ? 1 : 0, 0);
            }
        }
    }

    private static void rows(Class<?> c) {
        int fields = 0;
        for (Field f : c.getDeclaredFields()) {
            boolean isStatic = Modifier.isStatic(f.getModifiers());
            fields += isStatic ? 0 : 1;
            Due.due(f + " is final", !isStatic || Modifier.isFinal(f.getModifiers()) ? 1 : 0, 1);
        }
        Due.due(c + " has some twenty fields", fields <= 20 ? 1 : 0, 1);
        for (Method m : c.getDeclaredMethods()) {
            Due.due(m + " has seven parameters", m.getParameterCount() <= 7 ? 1 : 0, 1);
        }
        for (Constructor<?> m : c.getDeclaredConstructors()) {
            Due.due(m + " has seven parameters", m.getParameterCount() <= 7 ? 1 : 0, 1);
        }
    }

    private static void source() throws IOException {
        String text = Files.readString(Path.of(System.getProperty("strength.source")));
        String code = text.replaceAll("(?s)/\\*.*?\\*/", "").replaceAll("//[^\n]*", "");
        String[] words = {"throw", "throws", "try", "catch", "finally", "synchronized", "assert", "import",
            "package", "instanceof", "equals", "hashCode", "toString", "Object", "Thread", "Random",
            "lambda", "volatile", "native", "strictfp", "transient", "nanoTime", "currentTimeMillis",
            "Exception", "MAX_VALUE", "MIN_VALUE"};
        for (String word : words) {
            boolean stands = java.util.regex.Pattern.compile("\\b" + word + "\\b").matcher(code).find();
            Due.due(word, stands ? 1 : 0, 0);
        }
        Due.due("->", code.contains("->") ? 1 : 0, 0);
        Due.due("::", code.contains("::") ? 1 : 0, 0);
        Due.due("Exact(", code.contains("Exact(") ? 1 : 0, 0);
        Due.due("one file of plain signs", text.chars().allMatch(c -> c < 128) ? 1 : 0, 1);
    }
}
