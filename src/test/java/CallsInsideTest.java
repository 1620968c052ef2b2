import com.sun.source.tree.BinaryTree;
import com.sun.source.tree.ClassTree;
import com.sun.source.tree.CompilationUnitTree;
import com.sun.source.tree.MethodInvocationTree;
import com.sun.source.tree.MethodTree;
import com.sun.source.tree.NewClassTree;
import com.sun.source.util.JavacTask;
import com.sun.source.util.TreePathScanner;
import com.sun.source.util.Trees;
import java.io.IOException;
import java.nio.file.Path;
import java.util.List;
import java.util.Map;
import java.util.Set;
import java.util.TreeMap;
import java.util.TreeSet;
import javax.lang.model.element.Element;
import javax.tools.JavaCompiler;
import javax.tools.StandardJavaFileManager;
import javax.tools.ToolProvider;

/**
 * What calls what inside the class, as the compiler reads it: the rules of LANGUAGE.md on the library (4), on
 * recursion (8), on texts that are joined (10) and on the depth of calls (11).
 */
public final class CallsInsideTest {
    private static final Due DUE = new Due("CallsInsideTest");
    private static final Path SOURCE = Path.of("src", "main", "java", "QuietChecks.java");
    private static final int DEEPEST = 8;

    /** The class needs no more of what rule 4 lists. */
    private static final Set<String> LIBRARY = Set.of("String.length()", "String.charAt(int)",
            "StringBuilder.<init>", "StringBuilder.setLength(int)", "StringBuilder.append(char)",
            "StringBuilder.append(java.lang.String)", "StringBuilder.append(int)", "StringBuilder.length()",
            "StringBuilder.charAt(int)", "Math.max(int,int)", "Math.min(int,int)", "Math.floorMod(int,int)",
            "System.arraycopy(java.lang.Object,int,java.lang.Object,int,int)");

    public static void main(String[] args) throws IOException {
        Reader reader = read();
        DUE.same("texts that are joined by +", reader.joined, 0);
        for (Set<String> called : reader.calls.values()) {
            for (String name : called) {
                DUE.holds(name + " is of the class, or the library may be asked for it",
                        reader.calls.containsKey(name) || LIBRARY.contains(name));
            }
        }
        for (String name : reader.calls.keySet()) {
            int depth = depth(reader.calls, name, 1);
            DUE.holds(name + " goes " + depth + " deep, at most " + DEEPEST, depth <= DEEPEST);
        }
        DUE.holds("the face has been read", reader.calls.containsKey("QuietChecks.set(int,int)")
                && reader.calls.get("QuietChecks.digest()").contains("QuietChecks.nextCheck()"));
        DUE.end();
    }

    /** The number of calls that stand open at once, this one counted; a recursion goes beyond every bound. */
    private static int depth(Map<String, Set<String>> calls, String name, int open) {
        int deepest = 1;
        if (open <= DEEPEST) {
            for (String called : calls.getOrDefault(name, Set.of())) {
                deepest = Math.max(deepest, 1 + depth(calls, called, open + 1));
            }
        }
        return deepest;
    }

    private static Reader read() throws IOException {
        JavaCompiler compiler = ToolProvider.getSystemJavaCompiler();
        try (StandardJavaFileManager files = compiler.getStandardFileManager(null, null, null)) {
            JavacTask task = (JavacTask) compiler.getTask(null, files, null, List.of("--release", "17"), null,
                    files.getJavaFileObjects(SOURCE));
            Iterable<? extends CompilationUnitTree> units = task.parse();
            task.analyze();
            Reader reader = new Reader(Trees.instance(task));
            for (CompilationUnitTree unit : units) {
                reader.scan(unit, null);
            }
            return reader;
        }
    }

    /** Notes for each method, and for each constructor with the fields that it fills, what it calls. */
    private static final class Reader extends TreePathScanner<Void, String> {
        private final Map<String, Set<String>> calls = new TreeMap<>();
        private final Trees trees;
        private int joined = 0;

        Reader(Trees trees) {
            this.trees = trees;
        }

        @Override
        public Void visitClass(ClassTree tree, String outside) {
            return super.visitClass(tree, tree.getSimpleName() + ".<init>");
        }

        @Override
        public Void visitMethod(MethodTree tree, String inClass) {
            String name = name(trees.getElement(getCurrentPath()));
            calls.computeIfAbsent(name, key -> new TreeSet<>());
            return super.visitMethod(tree, name);
        }

        @Override
        public Void visitMethodInvocation(MethodInvocationTree tree, String caller) {
            note(caller);
            return super.visitMethodInvocation(tree, caller);
        }

        @Override
        public Void visitNewClass(NewClassTree tree, String caller) {
            note(caller);
            return super.visitNewClass(tree, caller);
        }

        @Override
        public Void visitBinary(BinaryTree tree, String caller) {
            if (trees.getTypeMirror(getCurrentPath()).toString().equals("java.lang.String")) {
                joined++;
            }
            return super.visitBinary(tree, caller);
        }

        private void note(String caller) {
            String called = name(trees.getElement(getCurrentPath()));
            if (!called.equals("Object.<init>")) {
                calls.computeIfAbsent(caller, key -> new TreeSet<>()).add(called);
            }
        }

        /** One name for all constructors of a class, as the fields belong to each of them. */
        private static String name(Element method) {
            // the library has some of StringBuilder's methods in a class above it
            String type = method.getEnclosingElement().getSimpleName().toString().replace("AbstractStringB", "StringB");
            boolean makes = method.getSimpleName().contentEquals("<init>");
            return type + "." + (makes ? "<init>" : method);
        }
    }
}
