import com.sun.source.tree.CompilationUnitTree;
import com.sun.source.tree.MethodInvocationTree;
import com.sun.source.tree.MethodTree;
import com.sun.source.tree.NewClassTree;
import com.sun.source.util.JavacTask;
import com.sun.source.util.TreePath;
import com.sun.source.util.TreePathScanner;
import com.sun.source.util.Trees;
import java.io.IOException;
import java.nio.file.Path;
import java.util.HashMap;
import java.util.HashSet;
import java.util.List;
import java.util.Map;
import java.util.Set;
import java.util.TreeMap;
import javax.lang.model.element.Element;
import javax.lang.model.element.Modifier;
import javax.tools.JavaCompiler;
import javax.tools.StandardJavaFileManager;
import javax.tools.ToolProvider;

/** How deep calls go in the class: at most eight from a method of the face on, and none calls itself. */
final class CallDepth {
    private static final int MOST = 8;

    private final Map<Element, Set<Element>> calls = new HashMap<>();
    private final Map<Element, Integer> depths = new HashMap<>();
    private final Set<Element> open = new HashSet<>();

    void check(Path source) throws IOException {
        JavaCompiler compiler = ToolProvider.getSystemJavaCompiler();
        try (StandardJavaFileManager files = compiler.getStandardFileManager(null, null, null)) {
            JavacTask task = (JavacTask) compiler.getTask(null, files, null, List.of("-proc:none"), null, files.getJavaFileObjects(source));
            Iterable<? extends CompilationUnitTree> units = task.parse();
            task.analyze();
            for (CompilationUnitTree unit : units) {
                new Scanner(Trees.instance(task)).scan(unit, null);
            }
        }
        TreeMap<String, Integer> tooDeep = new TreeMap<>();
        int faces = 0;
        for (Element method : calls.keySet()) {
            if (method.getModifiers().contains(Modifier.PUBLIC)) {
                faces++;
                if (depth(method) > MOST) {
                    tooDeep.put(method.toString(), depth(method));
                }
            }
        }
        Check.due("methods of the face were found", faces > 30, true);
        Check.same("calls that go too deep", tooDeep.toString(), "{}");
    }

    private int depth(Element method) {
        Integer known = depths.get(method);
        if (known != null) {
            return known;
        }
        if (!open.add(method)) {
            Check.due("a method calls itself: " + method, true, false);
            return 0;
        }
        int deepest = 0;
        for (Element called : calls.getOrDefault(method, Set.of())) {
            deepest = Math.max(deepest, depth(called));
        }
        open.remove(method);
        depths.put(method, deepest + 1);
        return deepest + 1;
    }

    /** Which method of the class calls which; those of the library don't count. */
    private final class Scanner extends TreePathScanner<Void, Void> {
        private final Trees trees;
        private Element method = null;

        Scanner(Trees trees) {
            this.trees = trees;
        }

        @Override
        public Void visitMethod(MethodTree node, Void nothing) {
            Element outer = method;
            method = trees.getElement(getCurrentPath());
            calls.putIfAbsent(method, new HashSet<>());
            super.visitMethod(node, nothing);
            method = outer;
            return null;
        }

        @Override
        public Void visitMethodInvocation(MethodInvocationTree node, Void nothing) {
            remember(new TreePath(getCurrentPath(), node.getMethodSelect()));
            return super.visitMethodInvocation(node, nothing);
        }

        @Override
        public Void visitNewClass(NewClassTree node, Void nothing) {
            remember(getCurrentPath());
            return super.visitNewClass(node, nothing);
        }

        private void remember(TreePath path) {
            Element called = trees.getElement(path);
            if (method != null && called != null && trees.getPath(called) != null) {
                calls.get(method).add(called);
            }
        }
    }
}
