import com.sun.source.tree.*;
import com.sun.source.util.JavacTask;
import com.sun.source.util.TreePath;
import com.sun.source.util.TreePathScanner;
import com.sun.source.util.Trees;
import java.io.IOException;
import java.nio.charset.StandardCharsets;
import java.nio.file.Files;
import java.nio.file.Path;
import java.util.List;
import java.util.Set;
import java.util.TreeSet;
import javax.lang.model.element.Modifier;
import javax.tools.JavaCompiler;
import javax.tools.StandardJavaFileManager;
import javax.tools.ToolProvider;

/** The rules of ../shared/LANGUAGE.md that can be read off the source of the class. */
public final class LanguageTest {
    private static final Path SOURCE = Path.of("src/main/java/SnoopFilter.java");
    private static final Set<Tree.Kind> FORBIDDEN = Set.of(
            Tree.Kind.THROW, Tree.Kind.TRY, Tree.Kind.CATCH, Tree.Kind.SYNCHRONIZED, Tree.Kind.ASSERT,
            Tree.Kind.LAMBDA_EXPRESSION, Tree.Kind.MEMBER_REFERENCE, Tree.Kind.IMPORT, Tree.Kind.PACKAGE,
            Tree.Kind.SWITCH_EXPRESSION, Tree.Kind.ANNOTATION, Tree.Kind.STRING_LITERAL);
    private static final int PARAMETERS = 7;
    private static final int METHOD_LINES = 60;
    private static final int CLASSES = 12;
    private static final int FIELDS = 20;

    private final Due due = new Due("LanguageTest");
    private int classes;

    public static void main(String[] args) throws IOException {
        LanguageTest test = new LanguageTest();
        test.plainSigns();
        test.scanSource();
        test.due.is("no more classes than " + CLASSES, Math.max(test.classes, CLASSES), CLASSES);
        test.due.close();
    }

    private void plainSigns() throws IOException {
        for (char sign : Files.readString(SOURCE, StandardCharsets.UTF_8).toCharArray()) {
            if (sign > 126) {
                due.is("a sign of the source", sign, 126);
            }
        }
    }

    private void scanSource() throws IOException {
        JavaCompiler compiler = ToolProvider.getSystemJavaCompiler();
        try (StandardJavaFileManager files = compiler.getStandardFileManager(null, null, null)) {
            JavacTask task = (JavacTask) compiler.getTask(null, files, null, List.of(), null, files.getJavaFileObjects(SOURCE));
            Trees trees = Trees.instance(task);
            for (CompilationUnitTree unit : task.parse()) {
                Set<String> publicNames = new TreeSet<>();
                Tree face = unit.getTypeDecls().get(0);
                due.is("classes of the file's own level", unit.getTypeDecls().size(), 1);
                for (Tree member : ((ClassTree) face).getMembers()) {
                    if (member instanceof MethodTree method && method.getModifiers().getFlags().contains(Modifier.PUBLIC)) {
                        publicNames.add(method.getName().toString());
                    }
                }
                publicNames.remove("<init>");
                new Rules(unit, trees, publicNames).scan(unit, null);
            }
        }
    }

    private final class Rules extends TreePathScanner<Void, Void> {
        private final CompilationUnitTree unit;
        private final Trees trees;
        private final Set<String> publicNames;

        Rules(CompilationUnitTree unit, Trees trees, Set<String> publicNames) {
            this.unit = unit;
            this.trees = trees;
            this.publicNames = publicNames;
        }

        private long lineOf(long position) {
            return unit.getLineMap().getLineNumber(position);
        }

        @Override
        public Void scan(Tree tree, Void none) {
            if (tree != null && FORBIDDEN.contains(tree.getKind())) {
                due.holds("no " + tree.getKind() + " in line "
                        + lineOf(trees.getSourcePositions().getStartPosition(unit, tree)), false);
            }
            return super.scan(tree, none);
        }

        @Override
        public Void visitClass(ClassTree tree, Void none) {
            classes++;
            TreePath above = getCurrentPath().getParentPath();
            boolean inner = above.getLeaf() != unit;
            if (inner) {
                due.holds(tree.getSimpleName() + " is static", tree.getModifiers().getFlags().contains(Modifier.STATIC));
                due.holds(tree.getSimpleName() + " is a member", above.getLeaf() instanceof ClassTree);
            }
            int fields = 0;
            for (Tree member : tree.getMembers()) {
                due.holds(tree.getSimpleName() + " has no block", member.getKind() != Tree.Kind.BLOCK);
                if (member instanceof VariableTree field) {
                    Set<Modifier> flags = field.getModifiers().getFlags();
                    due.holds(field.getName() + " is final if it is static",
                            !flags.contains(Modifier.STATIC) || flags.contains(Modifier.FINAL));
                    fields += flags.contains(Modifier.STATIC) ? 0 : 1;
                }
            }
            due.is("fields of " + tree.getSimpleName() + " are no more than " + FIELDS, Math.max(fields, FIELDS), FIELDS);
            return super.visitClass(tree, none);
        }

        @Override
        public Void visitMethod(MethodTree tree, Void none) {
            String name = tree.getName().toString();
            due.is("parameters of " + name, Math.max(tree.getParameters().size(), PARAMETERS), PARAMETERS);
            long first = lineOf(trees.getSourcePositions().getStartPosition(unit, tree));
            long last = lineOf(trees.getSourcePositions().getEndPosition(unit, tree));
            due.is("lines of " + name, Math.max(last - first + 1, METHOD_LINES), METHOD_LINES);
            if (!tree.getModifiers().getFlags().contains(Modifier.PUBLIC)) {
                due.holds(name + " bears no public name", !publicNames.contains(name));
            }
            return super.visitMethod(tree, none);
        }
    }
}
