import com.sun.source.tree.ClassTree;
import com.sun.source.tree.CompilationUnitTree;
import com.sun.source.tree.LambdaExpressionTree;
import com.sun.source.tree.MemberReferenceTree;
import com.sun.source.tree.MethodInvocationTree;
import com.sun.source.tree.MethodTree;
import com.sun.source.tree.TryTree;
import com.sun.source.util.JavacTask;
import com.sun.source.util.TreePathScanner;
import com.sun.source.util.Trees;
import java.io.IOException;
import java.nio.file.Path;
import java.util.List;
import java.util.Map;
import java.util.Set;
import java.util.TreeMap;
import java.util.TreeSet;
import javax.lang.model.element.Element;
import javax.lang.model.element.ExecutableElement;
import javax.tools.JavaCompiler;
import javax.tools.StandardJavaFileManager;
import javax.tools.ToolProvider;

/**
 * What of LANGUAGE.md needs the compiler's own reading of the class: no call comes back to itself and none goes more than
 * eight deep (rules 8, 11), a call of the library counted as one; the library is what rule 4 lists; no lambda, no try.
 */
public final class CallTests {
    private static final int MOST_DEEP = 8;
    private static final Set<String> LIBRARY = Set.of("java.lang.Math.min", "java.lang.Math.max", "java.lang.String.length",
            "java.lang.String.charAt", "java.util.Arrays.fill", "java.lang.System.arraycopy", "java.lang.Object.<init>");
    private static final Map<String, Set<String>> CALLS = new TreeMap<>();
    private static final Map<String, Integer> DEPTHS = new TreeMap<>();

    public static void main(String[] args) throws IOException {
        JavaCompiler compiler = ToolProvider.getSystemJavaCompiler();
        try (StandardJavaFileManager files = compiler.getStandardFileManager(null, null, null)) {
            JavacTask task = (JavacTask) compiler.getTask(null, files, null, List.of("-proc:none"), null,
                    files.getJavaFileObjects(Path.of("src/main/java/OddsSolver.java")));
            Iterable<? extends CompilationUnitTree> units = task.parse();
            task.analyze();
            for (CompilationUnitTree unit : units) {
                new Scanner(Trees.instance(task)).scan(unit, null);
            }
        }
        int deepest = 0;
        for (String method : CALLS.keySet()) {
            int depth = depthOf(method, new TreeSet<>());
            Check.due(method + " goes at most eight deep", depth <= MOST_DEEP ? MOST_DEEP : depth, MOST_DEEP);
            deepest = Math.max(deepest, depth);
        }
        System.out.println(CALLS.size() + " methods, the deepest call goes " + deepest + " deep");
        Check.due("all methods are read", CALLS.size() > 100 ? 1 : 0, 1);
        Check.close();
    }

    private static int depthOf(String method, Set<String> open) {
        if (DEPTHS.containsKey(method)) {
            return DEPTHS.get(method);
        }
        open.add(method);
        int below = 0;
        for (String called : CALLS.getOrDefault(method, Set.of())) {
            Check.due(method + " calls " + called + ", which does not stand open", open.contains(called) ? 1 : 0, 0);
            below = open.contains(called) ? below : Math.max(below, depthOf(called, open));
        }
        open.remove(method);
        DEPTHS.put(method, below + 1);
        return below + 1;
    }

    /** Each method of the file, and which ones it calls. */
    private static final class Scanner extends TreePathScanner<Void, Void> {
        private final Trees trees;
        private String className = "";
        private String method = "";

        Scanner(Trees trees) {
            this.trees = trees;
        }

        @Override
        public Void visitClass(ClassTree node, Void nothing) {
            String outer = className;
            className = outer.isEmpty() ? node.getSimpleName().toString() : outer + "." + node.getSimpleName();
            super.visitClass(node, nothing);
            className = outer;
            return null;
        }

        @Override
        public Void visitMethod(MethodTree node, Void nothing) {
            method = className + "." + node.getName();
            boolean fresh = CALLS.putIfAbsent(method, new TreeSet<>()) == null;
            Check.due(method + " stands once, so that names tell which one is called", fresh ? 1 : 0, 1);
            super.visitMethod(node, nothing);
            method = "";
            return null;
        }

        @Override
        public Void visitMethodInvocation(MethodInvocationTree node, Void nothing) {
            Element called = trees.getElement(getCurrentPath());
            String name = called.getEnclosingElement() + "." + (called instanceof ExecutableElement it ? it.getSimpleName() : called);
            Check.due(method + " calls " + name, name.startsWith("OddsSolver") || LIBRARY.contains(name) ? 1 : 0, 1);
            CALLS.getOrDefault(method, new TreeSet<>()).add(name);
            return super.visitMethodInvocation(node, nothing);
        }

        @Override
        public Void visitLambdaExpression(LambdaExpressionTree node, Void nothing) {
            Check.due(method + " has no lambda", 1, 0);
            return null;
        }

        @Override
        public Void visitMemberReference(MemberReferenceTree node, Void nothing) {
            Check.due(method + " has no method reference", 1, 0);
            return null;
        }

        @Override
        public Void visitTry(TryTree node, Void nothing) {
            Check.due(method + " has no try", 1, 0);
            return null;
        }
    }
}
