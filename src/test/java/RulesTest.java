import java.io.IOException;
import java.lang.reflect.Constructor;
import java.lang.reflect.Field;
import java.lang.reflect.Method;
import java.lang.reflect.Modifier;
import java.nio.charset.StandardCharsets;
import java.nio.file.Files;
import java.nio.file.Path;
import java.util.Arrays;
import java.util.List;
import java.util.Set;
import java.util.TreeSet;
import java.util.regex.Matcher;
import java.util.regex.Pattern;

/** The face of the document, and the rules of LANGUAGE.md that can be seen from the source or from the classes. */
public final class RulesTest {
    private static final Due DUE = new Due("RulesTest");
    private static final Path SOURCE = Path.of("src", "main", "java", "QuietChecks.java");
    private static final String FACE = """
        int set(int, int)
        int setWay(int)
        int addSpares(int)
        int spot(int, int)
        int ask(int)
        int unask(int)
        int read(int, int)
        int quiet(int)
        int giveUp()
        int count(int)
        int setting(int)
        int span(int, int)
        int tries(int, int)
        int entries()
        int entry(int, int)
        int lineAt(int, int)
        int overdue()
        int nextCheck()
        int checkedIn(int)
        int ifQuiet(int)
        int bestWay(int)
        int type(int)
        int clearText()
        int syntaxError()
        int carryOut()
        int undo()
        long digest()
        """;
    private static final String CONSTANTS = "BAD_TEXT=-5 BAD_VALUE=-2 LIMIT=-4 NONE=-6 NOT_POSSIBLE=-3 NO_SUCH=-1";

    public static void main(String[] args) throws IOException, IllegalAccessException {
        face();
        constants();
        classesInside();
        String source = Files.readString(SOURCE, StandardCharsets.ISO_8859_1);
        String code = withoutComments(source);
        words(code);
        methodLengths(code);
        DUE.end();
    }

    private static void face() {
        Class<?> type = QuietChecks.class;
        DUE.holds("the class is public and final",
                Modifier.isPublic(type.getModifiers()) && Modifier.isFinal(type.getModifiers()));
        DUE.holds("it has no package", type.getPackageName().isEmpty());
        Set<String> publicNames = new TreeSet<>();
        Set<String> signatures = new TreeSet<>();
        Set<String> others = new TreeSet<>();
        for (Method method : type.getDeclaredMethods()) {
            if (Modifier.isPublic(method.getModifiers())) {
                publicNames.add(method.getName());
                signatures.add(signature(method));
            } else {
                others.add(method.getName());
                DUE.holds(method.getName() + " is private", Modifier.isPrivate(method.getModifiers()));
            }
        }
        DUE.holds("the public methods are the face: " + signatures, signatures.equals(new TreeSet<>(FACE.lines().toList())));
        for (String name : others) {
            DUE.holds("no private method is called " + name, !publicNames.contains(name));
        }
        for (Class<?> inside : type.getDeclaredClasses()) {
            for (Method method : inside.getDeclaredMethods()) {
                DUE.holds("no method inside is called " + method.getName(), !publicNames.contains(method.getName()));
            }
        }
        Constructor<?>[] constructors = type.getDeclaredConstructors();
        DUE.same("constructors", constructors.length, 1);
        DUE.holds("it is public and takes nothing",
                Modifier.isPublic(constructors[0].getModifiers()) && constructors[0].getParameterCount() == 0);
    }

    private static String signature(Method method) {
        List<String> types = Arrays.stream(method.getParameterTypes()).map(Class::getSimpleName).toList();
        return method.getReturnType().getSimpleName() + " " + method.getName() + "(" + String.join(", ", types) + ")";
    }

    private static void constants() throws IllegalAccessException {
        Set<String> found = new TreeSet<>();
        for (Field field : QuietChecks.class.getDeclaredFields()) {
            int modifiers = field.getModifiers();
            if (Modifier.isPublic(modifiers)) {
                found.add(field.getName() + "=" + field.getInt(null));
            }
            DUE.holds(field.getName() + " is public or private",
                    Modifier.isPublic(modifiers) || Modifier.isPrivate(modifiers));
            DUE.holds(field.getName() + " is final if it is static",
                    Modifier.isFinal(modifiers) || !Modifier.isStatic(modifiers));
        }
        DUE.holds("the constants: " + found, String.join(" ", found).equals(CONSTANTS));
    }

    private static void classesInside() {
        Class<?>[] inside = QuietChecks.class.getDeclaredClasses();
        DUE.holds("some twelve classes", inside.length + 1 <= 12);
        for (Class<?> type : inside) {
            DUE.holds(type + " is static", Modifier.isStatic(type.getModifiers()));
            long fields = Arrays.stream(type.getDeclaredFields()).filter(f -> !Modifier.isStatic(f.getModifiers())).count();
            DUE.holds(type + " has some twenty fields", fields <= 20);
            for (Method method : type.getDeclaredMethods()) {
                DUE.holds(method + " takes at most seven parameters", method.getParameterCount() <= 7);
            }
        }
    }

    private static String withoutComments(String source) {
        return source.replaceAll("(?s)/\\*.*?\\*/", "").replaceAll("//[^\n]*", "")
                .replaceAll("\"[^\"\n]*\"", "\"\"").replaceAll("'[^'\n]+'", "' '");
    }

    private static void words(String code) {
        String[] never = {"throw", "throws", "try", "catch", "finally", "synchronized", "assert", "import", "package",
            "volatile", "native", "equals", "hashCode", "toString", "Exception", "Object", "double", "float", "var",
            "yield", "System.out", "protected"};
        for (String word : never) {
            DUE.holds("the source has no word " + word, !Pattern.compile("\\b" + word + "\\b").matcher(code).find());
        }
        for (String sign : new String[] {"->", "::", "@", "\"\" +", "+ \"\"", "Exact("}) {
            DUE.holds("the source has no sign " + sign, !code.contains(sign));
        }
        DUE.holds("the source has no sign beyond 126", code.chars().allMatch(sign -> sign == '\n' || sign >= 32 && sign < 127));
        Matcher made = Pattern.compile("\\bnew\\s+(\\w+)").matcher(code);
        Set<String> kinds = Set.of("int", "char", "Disk", "Spots", "Asked", "Log", "History", "Plan", "StringBuilder");
        while (made.find()) {
            DUE.holds("only known things are made: " + made.group(1), kinds.contains(made.group(1)));
        }
    }

    /** A method begins in a line that ends with ") {" and is indented by 4 or 8 blanks; it ends in one with its "}" there. */
    private static void methodLengths(String code) {
        String[] lines = code.split("\n");
        for (int from = 0; from < lines.length; from++) {
            Matcher head = Pattern.compile("( {4}| {8})(?! )(?:\\w|\\[|\\]| )+\\(.*\\) \\{").matcher(lines[from]);
            if (head.matches() && !lines[from].trim().matches("(if|for|while|switch|do)\\b.*")) {
                int to = from;
                while (!lines[to].equals(head.group(1) + "}")) {
                    to++;
                }
                DUE.holds("some sixty lines at most: " + lines[from].trim(), to - from + 1 <= 60);
            }
        }
    }
}
