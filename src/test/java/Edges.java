import java.io.IOException;
import java.lang.reflect.Method;
import java.util.Arrays;
import java.util.Comparator;
import java.util.List;

/** Runs the methods of a test class that stand for words of the document. */
final class Edges {
    private Edges() {
    }

    static List<Method> of(Class<?> tests) {
        return Arrays.stream(tests.getDeclaredMethods())
                .filter(method -> method.isAnnotationPresent(Says.class))
                .sorted(Comparator.comparing(Method::getName))
                .toList();
    }

    static void run(Class<?> tests, Due due) throws IOException, ReflectiveOperationException {
        Document document = Document.read();
        for (Method method : of(tests)) {
            Says says = method.getAnnotation(Says.class);
            due.about(method.getName() + ", of promise " + says.promise() + ", \"" + says.words() + "\"");
            due.holds("the document says these words", document.says(says.promise(), says.words()));
            int before = due.compared();
            method.invoke(null);
            due.holds("something is compared", due.compared() > before);
        }
        due.end();
    }
}
