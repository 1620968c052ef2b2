import java.io.IOException;
import java.lang.reflect.Method;
import java.nio.file.Files;
import java.nio.file.Path;
import java.util.ArrayList;
import java.util.List;
import java.util.stream.Stream;

/** Each piece of a sentence of the document has a test method that stands for it, or names nothing that could break. */
public final class DocumentTest {
    private static final Due DUE = new Due("DocumentTest");

    private static final List<Class<?>> EDGES = List.of(EdgesOfDiskTest.class, EdgesOfChoosingTest.class,
            EdgesOfLogTest.class, EdgesOfPlansTest.class, EdgesOfUndoTest.class, EdgesOfSettingsTest.class,
            EdgesOfHappeningsTest.class, EdgesOfAskingTest.class, EdgesOfForecastsTest.class);

    /** Headings, and sentences that only lead to others. */
    private static final List<String> WITHOUT_TESTS = List.of("All values are integers.", "Time is told in ticks;",
            "Settings (number: name, range, initial value):", "Spans and spots.", "Checks.", "Choosing.", "Quiet ticks.",
            "The host.", "Log.", "Text.", "Undo.", "Error codes.", "`value`: the new value");

    public static void main(String[] args) throws IOException {
        Document document = Document.read();
        for (int promise : document.promises()) {
            List<String> said = said(promise);
            for (String piece : document.pieces(promise)) {
                if (!WITHOUT_TESTS.contains(piece) && !piece.startsWith("Ahead of the calls")) {
                    boolean found = said.stream().anyMatch(words -> words.contains(piece) || piece.contains(words));
                    DUE.holds("promise " + promise + " has a test for \"" + piece + "\"", found);
                }
            }
        }
        for (String piece : WITHOUT_TESTS) {
            DUE.holds("the document still says \"" + piece + "\"", document.says(0, piece) || document.says(2, piece));
        }
        DUE.same("test classes that stand for words of the document", edgeFiles(), EDGES.size());
        DUE.end();
    }

    private static long edgeFiles() throws IOException {
        try (Stream<Path> files = Files.list(Path.of("src", "test", "java"))) {
            return files.filter(file -> file.getFileName().toString().startsWith("EdgesOf")).count();
        }
    }

    private static List<String> said(int promise) {
        List<String> said = new ArrayList<>();
        for (Class<?> tests : EDGES) {
            for (Method method : Edges.of(tests)) {
                Says says = method.getAnnotation(Says.class);
                if (says.promise() == promise) {
                    said.add(says.words());
                }
            }
        }
        return said;
    }
}
