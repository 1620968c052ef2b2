import java.io.IOException;
import java.nio.file.Files;
import java.nio.file.Path;
import java.util.ArrayList;
import java.util.List;
import java.util.Map;
import java.util.TreeMap;
import java.util.regex.Matcher;
import java.util.regex.Pattern;

/** The document's sentences, by promises; the section "Terms" counts as promise 0. */
final class Document {
    private static final Path PLACE = Path.of("..", "shared", "DOC.md");
    private static final Pattern PROMISE = Pattern.compile("## Promise (\\d+): .*");

    private final Map<Integer, List<String>> lines = new TreeMap<>();

    private Document() {
    }

    static Document read() throws IOException {
        Document document = new Document();
        List<String> section = new ArrayList<>();
        for (String line : Files.readAllLines(PLACE)) {
            Matcher promise = PROMISE.matcher(line);
            if (promise.matches()) {
                section = document.section(Integer.parseInt(promise.group(1)));
            } else if (line.equals("## Terms")) {
                section = document.section(0);
            } else if (line.startsWith("## ")) {
                section = new ArrayList<>();
            } else if (!line.isBlank()) {
                section.add(line.strip());
            }
        }
        return document;
    }

    private List<String> section(int promise) {
        return lines.computeIfAbsent(promise, number -> new ArrayList<>());
    }

    Iterable<Integer> promises() {
        return lines.keySet();
    }

    boolean says(int promise, String words) {
        return lines.getOrDefault(promise, List.of()).stream().anyMatch(line -> line.contains(words));
    }

    /** The parts of sentences between full stops, semicolons and the ends of lines. */
    List<String> pieces(int promise) {
        List<String> pieces = new ArrayList<>();
        for (String line : lines.getOrDefault(promise, List.of())) {
            pieces.addAll(List.of(line.replaceFirst("^- ", "").split("(?<=[.;]) ")));
        }
        return pieces;
    }
}
