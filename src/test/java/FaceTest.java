import java.io.IOException;
import java.lang.reflect.Constructor;
import java.lang.reflect.Field;
import java.lang.reflect.Method;
import java.lang.reflect.Modifier;
import java.nio.file.Files;
import java.nio.file.Path;
import java.util.ArrayList;
import java.util.Arrays;
import java.util.List;

/** The public face, and those rules of LANGUAGE.md that a machine sees easily. */
public final class FaceTest {
    private static final Path SOURCE = Path.of("src/main/java/BranchCourier.java");

    public static void main(String[] args) throws IOException {
        face();
        nothingElse();
        nested();
        words();
        lengths();
        Due.end();
    }

    /** The lines of the face in the document itself. */
    private static List<String> documented() throws IOException {
        List<String> lines = new ArrayList<>();
        boolean inside = false;
        for (String line : Files.readAllLines(Path.of("../shared/DOC.md"))) {
            if (line.startsWith("```")) {
                if (inside) {
                    return lines;
                }
                inside = line.equals("```java");
            } else if (inside && line.startsWith("    public ")) {
                lines.add(line.trim().replaceAll("[;]$", ""));
            }
        }
        return lines;
    }

    private static void face() throws IOException {
        Due.promise(0, "the face is that of the document");
        List<String> source = Files.readAllLines(SOURCE);
        List<String> own = new ArrayList<>();
        for (String line : source) {
            if (line.startsWith("    public ")) {
                own.add(line.trim().replaceAll("( \\{|;)$", ""));
            }
        }
        List<String> documented = documented();
        Due.is("lines of the face", documented.size(), 46);
        for (String line : documented) {
            Due.is(line, own.contains(line), true);
        }
        Due.is("as many as documented", own.size(), documented.size());
    }

    private static void nothingElse() {
        Due.promise(0, "no other member is seen");
        Class<?> c = BranchCourier.class;
        Due.is("final", Modifier.isFinal(c.getModifiers()) && Modifier.isPublic(c.getModifiers()), true);
        for (Field f : c.getDeclaredFields()) {
            boolean constant = List.of("NONE", "HIDDEN").contains(f.getName());
            Due.is("private " + f.getName(), Modifier.isPrivate(f.getModifiers()), !constant);
            boolean right = !Modifier.isStatic(f.getModifiers()) || Modifier.isFinal(f.getModifiers());
            Due.is("static and final " + f.getName(), right, true);
        }
        for (Constructor<?> k : c.getDeclaredConstructors()) {
            Due.is("constructor", k.getParameterCount() == 0 && Modifier.isPublic(k.getModifiers()), true);
        }
        for (Method m : c.getDeclaredMethods()) {
            Due.is("public or private " + m.getName(),
                Modifier.isPublic(m.getModifiers()) || Modifier.isPrivate(m.getModifiers()), true);
        }
    }

    private static void nested() {
        Due.promise(0, "the classes inside");
        List<String> names = Arrays.stream(BranchCourier.class.getDeclaredMethods())
            .filter(m -> Modifier.isPublic(m.getModifiers())).map(Method::getName).toList();
        Class<?>[] inside = BranchCourier.class.getDeclaredClasses();
        Due.is("some twelve classes", inside.length <= 12, true);
        for (Class<?> c : inside) {
            Due.is("private and static " + c.getName(),
                Modifier.isPrivate(c.getModifiers()) && Modifier.isStatic(c.getModifiers()), true);
            for (Method m : c.getDeclaredMethods()) {
                Due.is(c.getName() + "." + m.getName() + " has a name of its own", names.contains(m.getName()), false);
            }
            long fields = Arrays.stream(c.getDeclaredFields()).filter(f -> !Modifier.isStatic(f.getModifiers())).count();
            Due.is("some twenty fields of " + c.getName(), fields <= 20, true);
        }
        for (Method m : BranchCourier.class.getDeclaredMethods()) {
            boolean shared = !Modifier.isPublic(m.getModifiers()) && names.contains(m.getName());
            Due.is(m.getName() + " is no private namesake", shared, false);
        }
    }

    private static void words() throws IOException {
        Due.promise(0, "words that the language leaves out");
        String[] banned = {"->", "::", "catch", "finally", "synchronized", "assert", "volatile", "Exact(", "String.format",
            "java.io", "System.out", "Random", "nanoTime", "Thread", "@Override", "var ", "native", "instanceof", "null"};
        List<String> lines = Files.readAllLines(SOURCE);
        for (String word : banned) {
            Due.is("lines with '" + word + "'", lines.stream().filter(line -> line.contains(word)).count(), 0);
        }
        long imports = lines.stream().filter(line -> line.startsWith("import ")).count();
        Due.is("imports", imports, lines.contains("import java.util.NoSuchElementException;") ? 1 : 0);
        Due.is("lines of more than 120 signs", lines.stream().filter(line -> line.length() > 120).count(), 0);
    }

    private static void lengths() throws IOException {
        Due.promise(0, "methods stay short");
        int start = 0;
        List<String> lines = Files.readAllLines(SOURCE);
        for (int i = 0; i < lines.size(); i++) {
            if (lines.get(i).matches(" {4}( {4})?[a-zA-Z].*\\) ?(throws .*)?\\{")) {
                start = i;
            }
            if (lines.get(i).matches(" {4}( {4})?\\}")) {
                Due.is("line " + (i + 1) + " ends a method of at most 60 lines", i - start <= 60 || start == 0, true);
                start = 0;
            }
        }
    }
}
