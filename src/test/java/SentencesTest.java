import java.io.IOException;
import java.nio.file.Files;
import java.nio.file.Path;
import java.util.ArrayList;
import java.util.HashMap;
import java.util.List;
import java.util.Map;
import java.util.regex.Matcher;
import java.util.regex.Pattern;
import java.util.stream.Stream;

/**
 * Looks through the tests for the sentences that they name: every promise must have one, and so must every line of a
 * promise that tells a range, what is returned, or what is thrown.
 */
public final class SentencesTest {
    private static final Pattern NAMED =
        Pattern.compile("Due\\.sentence\\(\\s*(\\d+|\"[^\"]*\"),\\s*((?:\"(?:[^\"\\\\]|\\\\.)*\"[\\s+]*)+)\\)");
    private static final Pattern PART = Pattern.compile("\"((?:[^\"\\\\]|\\\\.)*)\"");
    private static final String[] SECTIONS =
        {"What it is", "Terms", "Ways", "A tick", "Input text", "Queries", "Operations"};

    public static void main(String[] args) throws IOException {
        Due.promise(0, "sentences with tests");
        Map<String, List<String>> named = named();
        for (String section : SECTIONS) {
            Due.is("a sentence of '" + section + "' has a test", named.containsKey(section), true);
        }
        for (int promise = 1; promise <= 44; promise++) {
            Due.is("a sentence of promise " + promise + " has a test", named.containsKey("Promise " + promise), true);
        }
        lines(named);
        Due.end();
    }

    private static Map<String, List<String>> named() throws IOException {
        Map<String, List<String>> named = new HashMap<>();
        List<Path> sources;
        try (Stream<Path> files = Files.list(Path.of("src/test/java"))) {
            sources = files.filter(file -> file.toString().endsWith("Test.java")).sorted().toList();
        }
        for (Path source : sources) {
            Matcher m = NAMED.matcher(Files.readString(source));
            while (m.find()) {
                String where = m.group(1).startsWith("\"") ? m.group(1).replace("\"", "") : "Promise " + m.group(1);
                named.computeIfAbsent(where, w -> new ArrayList<>()).add(joined(m.group(2)));
            }
        }
        return named;
    }

    private static String joined(String literals) {
        StringBuilder text = new StringBuilder();
        Matcher m = PART.matcher(literals);
        while (m.find()) {
            text.append(m.group(1).replace("\\\"", "\"").replace("\\\\", "\\"));
        }
        return Due.plain(text.toString());
    }

    private static void lines(Map<String, List<String>> named) throws IOException {
        String promise = "";
        for (String line : Files.readAllLines(Due.DOC)) {
            if (line.startsWith("#")) {
                promise = line.startsWith("## Promise ") ? line.replaceAll("^## (Promise \\d+).*", "$1") : "";
            } else if (!promise.isEmpty() && line.matches("(Throws|Returns|- `).*")) {
                String told = Due.plain(line);
                List<String> sentences = named.getOrDefault(promise, List.of());
                Due.is("a test of " + promise + ": " + told, sentences.stream().anyMatch(told::contains), true);
            }
        }
    }
}
