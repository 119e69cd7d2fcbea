import java.io.IOException;
import java.lang.reflect.Method;
import java.lang.reflect.Modifier;
import java.nio.file.Files;
import java.nio.file.Path;
import java.util.Arrays;
import java.util.List;
import java.util.regex.Matcher;
import java.util.regex.Pattern;

/** README.md: its example, call by call, with the answers told there, and the names of all calls. */
public final class ReadmeTest {
    private static final Path README = Path.of("README.md");
    private static final Pattern CALL = Pattern.compile("x\\.(\\w+)\\(([-\\d, ]*)\\); +// (-?\\d+): .+");
    private static final String FIRST_LINE = "BranchCourier x = new BranchCourier();";

    public static void main(String[] args) throws IOException, ReflectiveOperationException {
        Due.promise(0, "README.md");
        example();
        names();
        Due.end();
    }

    private static void example() throws IOException, ReflectiveOperationException {
        String[] parts = Files.readString(README).split("```");
        Due.is("blocks of code", parts.length, 3);
        List<String> lines = parts[1].lines().toList();
        Due.is("the first line", lines.get(1), FIRST_LINE);
        BranchCourier x = new BranchCourier();
        for (String line : lines.subList(2, lines.size())) {
            Matcher m = CALL.matcher(line);
            boolean told = m.matches();
            Due.check(line, told, "tells no answer");
            if (told) {
                Due.is(line, answer(x, m.group(1), m.group(2)), Integer.parseInt(m.group(3)));
            }
        }
    }

    private static int answer(BranchCourier x, String name, String numbers) throws ReflectiveOperationException {
        Object[] values = numbers.isEmpty() ? new Object[0]
            : Arrays.stream(numbers.split(", ")).map(Integer::valueOf).toArray();
        Class<?>[] types = new Class<?>[values.length];
        Arrays.fill(types, int.class);
        return (Integer) BranchCourier.class.getMethod(name, types).invoke(x, values);
    }

    private static void names() throws IOException {
        String text = Files.readString(README);
        for (Method m : BranchCourier.class.getDeclaredMethods()) {
            if (Modifier.isPublic(m.getModifiers())) {
                Due.is("README.md names " + m.getName(), text.contains("`" + m.getName() + "`"), true);
            }
        }
        for (String constant : List.of("NONE", "HIDDEN")) {
            Due.is("README.md names " + constant, text.contains("`" + constant + "` (-1"), true);
        }
    }
}
