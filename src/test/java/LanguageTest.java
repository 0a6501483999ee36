import com.sun.source.tree.AssertTree;
import com.sun.source.tree.CompilationUnitTree;
import com.sun.source.tree.ImportTree;
import com.sun.source.tree.LambdaExpressionTree;
import com.sun.source.tree.MemberReferenceTree;
import com.sun.source.tree.MethodTree;
import com.sun.source.tree.SynchronizedTree;
import com.sun.source.tree.ThrowTree;
import com.sun.source.tree.Tree;
import com.sun.source.tree.TryTree;
import com.sun.source.util.JavacTask;
import com.sun.source.util.SourcePositions;
import com.sun.source.util.TreeScanner;
import com.sun.source.util.Trees;
import java.io.File;
import java.io.IOException;
import java.util.List;
import java.util.Set;
import javax.tools.JavaCompiler;
import javax.tools.StandardJavaFileManager;
import javax.tools.ToolProvider;

/** The rules of LANGUAGE.md that can be read off the source tree: 4 (imports), 2 and 6 (forms), 11 (sizes). */
final class LanguageTest extends TreeScanner<Void, Void> {
    private static final String SOURCE = "src/main/java/WishRoutes.java";
    private static final Set<String> IMPORTS = Set.of(
        "java.util.ArrayList", "java.util.List", "java.util.Arrays", "java.util.Iterator");
    private static final List<Class<? extends Tree>> FORBIDDEN = List.of(
        ThrowTree.class, TryTree.class, SynchronizedTree.class, AssertTree.class,
        LambdaExpressionTree.class, MemberReferenceTree.class);

    private final CompilationUnitTree unit;
    private final SourcePositions positions;

    private LanguageTest(CompilationUnitTree unit, SourcePositions positions) {
        this.unit = unit;
        this.positions = positions;
    }

    public static void main(String[] args) throws IOException {
        JavaCompiler compiler = ToolProvider.getSystemJavaCompiler();
        try (StandardJavaFileManager files = compiler.getStandardFileManager(null, null, null)) {
            JavacTask task = (JavacTask) compiler.getTask(
                null, files, null, null, null, files.getJavaFileObjects(new File(SOURCE)));
            SourcePositions positions = Trees.instance(task).getSourcePositions();
            for (CompilationUnitTree unit : task.parse()) {
                new LanguageTest(unit, positions).scan(unit, null);
            }
        }
        Check.end();
    }

    @Override
    public Void scan(Tree tree, Void none) {
        for (Class<? extends Tree> form : FORBIDDEN) {
            if (form.isInstance(tree)) {
                Check.due("line " + line(positions.getStartPosition(unit, tree)) + ": "
                    + form.getSimpleName(), true, false);
            }
        }
        return super.scan(tree, none);
    }

    @Override
    public Void visitImport(ImportTree tree, Void none) {
        String name = tree.getQualifiedIdentifier().toString();
        Check.due("import " + name + " is listed", IMPORTS.contains(name), true);
        return super.visitImport(tree, none);
    }

    @Override
    public Void visitMethod(MethodTree tree, Void none) {
        long start = line(positions.getStartPosition(unit, tree));
        long end = line(positions.getEndPosition(unit, tree));
        Check.due(tree.getName() + " is short", end - start < 60, true);
        Check.due(tree.getName() + " takes at most seven", tree.getParameters().size() <= 7, true);
        return super.visitMethod(tree, none);
    }

    private long line(long position) {
        return unit.getLineMap().getLineNumber(Math.max(0, position));
    }
}
