import com.sun.source.tree.ClassTree;
import com.sun.source.tree.CompilationUnitTree;
import com.sun.source.tree.MethodInvocationTree;
import com.sun.source.tree.MethodTree;
import com.sun.source.tree.NewClassTree;
import com.sun.source.util.JavacTask;
import com.sun.source.util.TreePathScanner;
import com.sun.source.util.Trees;
import java.io.File;
import java.io.IOException;
import java.util.ArrayList;
import java.util.HashMap;
import java.util.LinkedHashSet;
import java.util.List;
import java.util.Map;
import java.util.Set;
import javax.lang.model.element.Element;
import javax.tools.JavaCompiler;
import javax.tools.StandardJavaFileManager;
import javax.tools.ToolProvider;

/** LANGUAGE.md's rules of calls: which the library lends (4), no recursion without a guard (8), eight deep at most (11). */
public final class CallsTest {
    private static final Due due = new Due("CallsTest");
    private static final int DEEPEST = 8;
    /** What the class takes of the library today; rule 4 has more, to be added here when it is used. */
    private static final Set<String> LENT = Set.of("java.lang.Integer.bitCount(int)", "java.lang.Math.abs(int)",
        "java.lang.Math.max(int,int)", "java.lang.Math.min(int,int)", "java.lang.String.charAt(int)",
        "java.lang.String.length()", "java.lang.Object.Object()",
        "java.lang.System.arraycopy(java.lang.Object,int,java.lang.Object,int,int)");

    /** For each method of the file those of the file that it calls. */
    private static final Map<Element, Set<Element>> calls = new HashMap<>();
    private static final Map<Element, Integer> depths = new HashMap<>();

    public static void main(String[] args) throws IOException {
        readSource(new File(System.getProperty("eyerota.source", "src/main/java/EyeRota.java")));
        for (Element method : calls.keySet()) {
            int depth = depthOf(method, new ArrayList<>());
            due.is(nameOf(method) + " goes eight deep at most, not " + depth, depth <= DEEPEST ? 1 : 0, 1);
        }
        due.is("methods were found", calls.size() > 100 ? 1 : 0, 1);
        due.close();
    }

    private static void readSource(File source) throws IOException {
        JavaCompiler compiler = ToolProvider.getSystemJavaCompiler();
        try (StandardJavaFileManager files = compiler.getStandardFileManager(null, null, null)) {
            JavacTask task = (JavacTask) compiler.getTask(null, files, null, List.of("-proc:none"), null,
                files.getJavaFileObjects(source));
            Iterable<? extends CompilationUnitTree> units = task.parse();
            task.analyze();
            for (CompilationUnitTree unit : units) {
                new Finder(Trees.instance(task)).scan(unit, null);
            }
        }
    }

    private static String nameOf(Element e) {
        return e.getEnclosingElement() + "." + e;
    }

    private static int depthOf(Element method, List<Element> open) {
        due.is(nameOf(method) + " calls itself, by " + open, open.contains(method) ? 1 : 0, 0);
        if (open.contains(method)) {
            return 0;
        }
        if (!depths.containsKey(method)) {
            open.add(method);
            int deepest = 0;
            for (Element called : calls.getOrDefault(method, Set.of())) {
                deepest = Math.max(deepest, depthOf(called, open));
            }
            open.remove(method);
            depths.put(method, deepest + 1);
        }
        return depths.get(method);
    }

    private static final class Finder extends TreePathScanner<Void, Void> {
        private final Trees trees;
        private Element method;

        Finder(Trees trees) {
            this.trees = trees;
        }

        @Override
        public Void visitClass(ClassTree node, Void none) {
            Element outer = method;
            method = null;
            super.visitClass(node, none);
            method = outer;
            return null;
        }

        @Override
        public Void visitMethod(MethodTree node, Void none) {
            method = trees.getElement(getCurrentPath());
            calls.computeIfAbsent(method, m -> new LinkedHashSet<>());
            super.visitMethod(node, none);
            method = null;
            return null;
        }

        @Override
        public Void visitMethodInvocation(MethodInvocationTree node, Void none) {
            note(trees.getElement(getCurrentPath()));
            return super.visitMethodInvocation(node, none);
        }

        @Override
        public Void visitNewClass(NewClassTree node, Void none) {
            note(trees.getElement(getCurrentPath()));
            return super.visitNewClass(node, none);
        }

        private void note(Element called) {
            String name = nameOf(called);
            if (name.startsWith("EyeRota")) {
                // a field's first value is made ahead of the constructor's own lines
                if (method != null) {
                    calls.get(method).add(called);
                }
            } else {
                due.is("the library lends " + name, LENT.contains(name) ? 1 : 0, 1);
            }
        }
    }
}
