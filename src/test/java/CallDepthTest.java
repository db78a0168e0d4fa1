import com.sun.source.tree.CompilationUnitTree;
import com.sun.source.tree.MethodInvocationTree;
import com.sun.source.tree.MethodTree;
import com.sun.source.tree.NewClassTree;
import com.sun.source.util.JavacTask;
import com.sun.source.util.TreePathScanner;
import com.sun.source.util.Trees;
import java.io.IOException;
import java.nio.file.Path;
import java.util.LinkedHashMap;
import java.util.LinkedHashSet;
import java.util.List;
import java.util.Map;
import java.util.Set;
import java.util.TreeSet;
import javax.lang.model.element.Element;
import javax.tools.JavaCompiler;
import javax.tools.StandardJavaFileManager;
import javax.tools.ToolProvider;

/** LANGUAGE.md, rules 4, 8 and 11: no method calls itself, calls go at most eight deep, and the library is arraycopy. */
public final class CallDepthTest {
    private static final Path SOURCE = Path.of("src/main/java/SnoopFilter.java");
    private static final int DEEPEST = 8;

    private final Due due = new Due("CallDepthTest");
    private final Map<Element, Set<Element>> callsOf = new LinkedHashMap<>();
    private final Set<String> library = new TreeSet<>();

    public static void main(String[] args) throws IOException {
        CallDepthTest test = new CallDepthTest();
        test.readSource();
        test.due.holds("methods are found", test.callsOf.size() > 22);
        for (Element method : test.callsOf.keySet()) {
            int depth = test.depthOf(method, new LinkedHashSet<>());
            test.due.holds(name(method) + " goes " + depth + " deep", depth <= DEEPEST);
        }
        test.due.holds("what is used of the library: " + test.library,
                test.library.equals(Set.of("java.lang.System.arraycopy")));
        test.due.close();
    }

    private static String name(Element method) {
        return method.getEnclosingElement() + "." + method.getSimpleName();
    }

    private void readSource() throws IOException {
        JavaCompiler compiler = ToolProvider.getSystemJavaCompiler();
        try (StandardJavaFileManager files = compiler.getStandardFileManager(null, null, null)) {
            JavacTask task = (JavacTask) compiler.getTask(null, files, null, List.of(), null, files.getJavaFileObjects(SOURCE));
            Trees trees = Trees.instance(task);
            Iterable<? extends CompilationUnitTree> units = task.parse();
            task.analyze();
            for (CompilationUnitTree unit : units) {
                new Callers(trees).scan(unit, null);
            }
        }
        for (Set<Element> called : callsOf.values()) {
            for (Element each : called) {
                if (!callsOf.containsKey(each) && !name(each).equals("java.lang.Object.<init>")) {
                    library.add(name(each));
                }
            }
        }
    }

    /** The calls that stand open at once, this one among them; a method that comes again would never end. */
    private int depthOf(Element method, Set<Element> open) {
        if (!callsOf.containsKey(method)) {
            return 0;
        }
        if (!open.add(method)) {
            due.holds(name(method) + " does not call itself", false);
            return 0;
        }
        int deepest = 0;
        for (Element called : callsOf.get(method)) {
            deepest = Math.max(deepest, depthOf(called, open));
        }
        open.remove(method);
        return deepest + 1;
    }

    private final class Callers extends TreePathScanner<Void, Element> {
        private final Trees trees;

        Callers(Trees trees) {
            this.trees = trees;
        }

        @Override
        public Void visitMethod(MethodTree tree, Element none) {
            Element method = trees.getElement(getCurrentPath());
            callsOf.put(method, new LinkedHashSet<>());
            return super.visitMethod(tree, method);
        }

        @Override
        public Void visitMethodInvocation(MethodInvocationTree tree, Element caller) {
            note(caller);
            return super.visitMethodInvocation(tree, caller);
        }

        @Override
        public Void visitNewClass(NewClassTree tree, Element caller) {
            note(caller);
            return super.visitNewClass(tree, caller);
        }

        private void note(Element caller) {
            if (caller != null) {
                callsOf.get(caller).add(trees.getElement(getCurrentPath()));
            }
        }
    }
}
