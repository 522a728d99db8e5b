import com.sun.source.tree.ClassTree;
import com.sun.source.tree.CompilationUnitTree;
import com.sun.source.tree.MethodInvocationTree;
import com.sun.source.tree.MethodTree;
import com.sun.source.tree.NewClassTree;
import com.sun.source.tree.Tree;
import com.sun.source.util.JavacTask;
import com.sun.source.util.TreePathScanner;
import com.sun.source.util.Trees;
import java.io.IOException;
import java.util.ArrayList;
import java.util.LinkedHashSet;
import java.util.List;
import java.util.Map;
import java.util.Set;
import java.util.TreeMap;
import java.util.TreeSet;
import javax.lang.model.element.Element;
import javax.lang.model.element.TypeElement;
import javax.tools.JavaCompiler;
import javax.tools.StandardJavaFileManager;
import javax.tools.ToolProvider;

/** Holds who calls whom in the source (its path is the argument) against LANGUAGE.md: its library, how deep calls go. */
public final class CallsTest extends Check {
    /** Of what the language allows, what the class needs; another call is a choice to be made knowingly. */
    private static final Set<String> LIBRARY = Set.of("String.length", "String.charAt", "Integer.bitCount",
        "Long.bitCount", "Math.min", "Math.max", "System.arraycopy", "Object.<init>",
        "NoSuchElementException.<init>", "IllegalArgumentException.<init>");
    private static final int DEEPEST = 8;

    private static final Map<String, Set<String>> CALLS = new TreeMap<>();
    private static final Set<String> OUTSIDE = new TreeSet<>();
    private static List<String> deepest = List.of();

    public static void main(String[] args) throws IOException {
        JavaCompiler javac = ToolProvider.getSystemJavaCompiler();
        try (StandardJavaFileManager files = javac.getStandardFileManager(null, null, null)) {
            JavacTask task = (JavacTask) javac.getTask(null, files, null, List.of("-proc:none"), null,
                files.getJavaFileObjects(args[0]));
            Iterable<? extends CompilationUnitTree> units = task.parse();
            task.analyze();
            for (CompilationUnitTree unit : units) new Reader(Trees.instance(task)).scan(unit, null);
        }
        due("methods that were read", CALLS.size() > 100 ? 1 : 0, 1);
        OUTSIDE.removeAll(LIBRARY);
        due("calls outside the library", "" + OUTSIDE, "[]");
        for (String method : CALLS.keySet()) walk(method, new ArrayList<>());
        if (deepest.size() > DEEPEST) due("calls that stand open at once, " + deepest, deepest.size(), DEEPEST);
        end("calls keep to the library, and go at most " + deepest.size() + " deep");
    }

    /** Every way down from here; a method that stands open already is recursion, which is not counted again. */
    private static void walk(String method, List<String> open) {
        if (open.contains(method)) return;
        open.add(method);
        if (open.size() > deepest.size()) deepest = new ArrayList<>(open);
        for (String next : CALLS.getOrDefault(method, Set.of())) walk(next, open);
        open.remove(open.size() - 1);
    }

    private static final class Reader extends TreePathScanner<Void, Void> {
        private final Trees trees;
        private String method = "";

        Reader(Trees trees) {
            this.trees = trees;
        }

        @Override
        public Void visitClass(ClassTree tree, Void nothing) {
            method = "";
            return super.visitClass(tree, nothing);
        }

        @Override
        public Void visitMethod(MethodTree tree, Void nothing) {
            method = nameOf(trees.getElement(getCurrentPath()));
            CALLS.put(method, new LinkedHashSet<>());
            super.visitMethod(tree, nothing);
            method = "";
            return null;
        }

        @Override
        public Void visitMethodInvocation(MethodInvocationTree tree, Void nothing) {
            note(tree);
            return super.visitMethodInvocation(tree, nothing);
        }

        @Override
        public Void visitNewClass(NewClassTree tree, Void nothing) {
            note(tree);
            return super.visitNewClass(tree, nothing);
        }

        private void note(Tree tree) {
            Element called = trees.getElement(getCurrentPath());
            due("a call outside methods in " + tree, method.isEmpty() ? 1 : 0, 0);
            if (method.isEmpty()) return;
            String name = nameOf(called);
            // super() of a class that is nothing but an Object is no call that anybody sees.
            if (!name.equals("Object.<init>")) CALLS.get(method).add(name);
            TypeElement owner = (TypeElement) called.getEnclosingElement();
            if (!owner.getQualifiedName().toString().startsWith("TakerTown")) OUTSIDE.add(name);
        }

        private static String nameOf(Element method) {
            return method.getEnclosingElement().getSimpleName() + "." + method.getSimpleName();
        }
    }
}
