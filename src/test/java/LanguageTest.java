import com.sun.source.tree.AssertTree;
import com.sun.source.tree.ClassTree;
import com.sun.source.tree.CompilationUnitTree;
import com.sun.source.tree.DoWhileLoopTree;
import com.sun.source.tree.ExpressionTree;
import com.sun.source.tree.ForLoopTree;
import com.sun.source.tree.ImportTree;
import com.sun.source.tree.LambdaExpressionTree;
import com.sun.source.tree.LiteralTree;
import com.sun.source.tree.MemberReferenceTree;
import com.sun.source.tree.MethodInvocationTree;
import com.sun.source.tree.MethodTree;
import com.sun.source.tree.NewClassTree;
import com.sun.source.tree.ParenthesizedTree;
import com.sun.source.tree.SynchronizedTree;
import com.sun.source.tree.ThrowTree;
import com.sun.source.tree.Tree;
import com.sun.source.tree.TryTree;
import com.sun.source.tree.TypeCastTree;
import com.sun.source.tree.VariableTree;
import com.sun.source.tree.WhileLoopTree;
import com.sun.source.util.JavacTask;
import com.sun.source.util.TreePathScanner;
import com.sun.source.util.Trees;
import java.io.File;
import java.io.IOException;
import java.util.HashMap;
import java.util.HashSet;
import java.util.List;
import java.util.Map;
import java.util.Set;
import java.util.TreeSet;
import javax.lang.model.element.Element;
import javax.lang.model.element.ElementKind;
import javax.lang.model.element.Modifier;
import javax.tools.JavaCompiler;
import javax.tools.StandardJavaFileManager;
import javax.tools.ToolProvider;

/**
 * The rules of LANGUAGE.md that can be read off the source: 2 and 6 (forms), 4 (the library), 5 (static fields),
 * 8 and 11 (depth of calls, sizes), 9 (loops with a condition).
 */
final class LanguageTest extends TreePathScanner<Void, Void> {
    private static final String SOURCE = "src/main/java/WishRoutes.java";
    private static final Set<String> IMPORTS = Set.of(
        "java.util.ArrayList", "java.util.List", "java.util.Arrays", "java.util.Iterator");
    /** A cast may be fine behind its test, but this class needs none. */
    private static final List<Class<? extends Tree>> FORBIDDEN = List.of(
        ThrowTree.class, TryTree.class, SynchronizedTree.class, AssertTree.class,
        LambdaExpressionTree.class, MemberReferenceTree.class, TypeCastTree.class);
    private static final Set<String> LIST_CALLS = Set.of(
        "<init>", "add", "get", "set", "remove", "size", "isEmpty", "clear");
    /** What rule 4 lists for texts is left out: the class has no texts. */
    private static final Map<String, Set<String>> LIBRARY = Map.of(
        "java.lang.Object", Set.of("<init>"),
        "java.lang.System", Set.of("arraycopy"),
        "java.util.Arrays", Set.of("copyOf", "copyOfRange", "fill"),
        "java.util.ArrayList", LIST_CALLS,
        "java.util.List", LIST_CALLS);
    private static final Set<String> NUMBER_CLASSES = Set.of("java.lang.Math", "java.lang.Integer", "java.lang.Long");
    private static final Set<String> CONSTANT_TYPES = Set.of(
        "int", "long", "boolean", "char", "java.lang.String", "int[]", "long[]", "char[]", "byte[]");
    private static final int MAX_LINES = 60;
    private static final int MAX_PARAMETERS = 7;
    private static final int MAX_DEPTH = 8;
    private static final int MAX_CLASSES = 12;
    private static final int MAX_FIELDS = 20;

    private final CompilationUnitTree unit;
    private final Trees trees;
    private final Map<String, Set<String>> calls = new HashMap<>();
    private final Map<String, Integer> fields = new HashMap<>();
    private String caller = "";

    private LanguageTest(CompilationUnitTree unit, Trees trees) {
        this.unit = unit;
        this.trees = trees;
    }

    public static void main(String[] args) throws IOException {
        JavaCompiler compiler = ToolProvider.getSystemJavaCompiler();
        try (StandardJavaFileManager files = compiler.getStandardFileManager(null, null, null)) {
            JavacTask task = (JavacTask) compiler.getTask(
                null, files, null, List.of("-proc:none"), null, files.getJavaFileObjects(new File(SOURCE)));
            Iterable<? extends CompilationUnitTree> units = task.parse();
            task.analyze();
            for (CompilationUnitTree unit : units) {
                LanguageTest test = new LanguageTest(unit, Trees.instance(task));
                test.scan(unit, null);
                test.checkSizes();
            }
        }
        Check.end();
    }

    private void checkSizes() {
        Check.due("classes within " + MAX_CLASSES, fields.size() <= MAX_CLASSES, true);
        fields.forEach((name, size) ->
            Check.due(name + "'s fields within " + MAX_FIELDS, size <= MAX_FIELDS, true));
        for (String method : calls.keySet()) {
            int depth = depth(method, new HashSet<>());
            Check.due(method + " goes " + depth + " deep; within " + MAX_DEPTH, depth <= MAX_DEPTH, true);
        }
    }

    /** How many calls stand open at once at most, far more than may be if a method calls itself. */
    private int depth(String method, Set<String> open) {
        if (!open.add(method)) {
            return MAX_DEPTH + 1;
        }
        int deepest = 0;
        for (String next : calls.getOrDefault(method, Set.of())) {
            deepest = Math.max(deepest, depth(next, open));
        }
        open.remove(method);
        return deepest + 1;
    }

    @Override
    public Void scan(Tree tree, Void none) {
        for (Class<? extends Tree> form : FORBIDDEN) {
            if (form.isInstance(tree)) {
                Check.fail("line " + startLine(tree) + ": " + form.getSimpleName());
            }
        }
        return super.scan(tree, none);
    }

    @Override
    public Void visitImport(ImportTree tree, Void none) {
        String name = tree.getQualifiedIdentifier().toString();
        Check.due("import " + name + " is listed", IMPORTS.contains(name), true);
        return super.visitImport(tree, none);
    }

    @Override
    public Void visitClass(ClassTree tree, Void none) {
        Check.due("line " + startLine(tree) + ": the class has a name and stands in no method",
            tree.getSimpleName().length() > 0 && caller.isEmpty(), true);
        int size = 0;
        for (Tree member : tree.getMembers()) {
            if (member instanceof VariableTree field && !isStatic(field)) {
                size++;
            }
            Check.due("line " + startLine(member) + ": an initialiser block",
                member.getKind() == Tree.Kind.BLOCK, false);
        }
        fields.put(tree.getSimpleName().toString(), size);
        return super.visitClass(tree, none);
    }

    @Override
    public Void visitVariable(VariableTree tree, Void none) {
        if (isStatic(tree)) {
            String type = trees.getElement(getCurrentPath()).asType().toString();
            Check.due(tree.getName() + " is final", tree.getModifiers().getFlags().contains(Modifier.FINAL), true);
            Check.due(tree.getName() + " is a constant of " + type, CONSTANT_TYPES.contains(type), true);
        }
        return super.visitVariable(tree, none);
    }

    @Override
    public Void visitMethod(MethodTree tree, Void none) {
        caller = nameOf(trees.getElement(getCurrentPath()));
        calls.putIfAbsent(caller, new TreeSet<>());
        long lines = line(trees.getSourcePositions().getEndPosition(unit, tree)) - startLine(tree);
        Check.due(caller + " is short", lines < MAX_LINES, true);
        Check.due(caller + " takes at most seven", tree.getParameters().size() <= MAX_PARAMETERS, true);
        super.visitMethod(tree, none);
        caller = "";
        return null;
    }

    @Override
    public Void visitMethodInvocation(MethodInvocationTree tree, Void none) {
        called(tree, trees.getElement(getCurrentPath()));
        return super.visitMethodInvocation(tree, none);
    }

    @Override
    public Void visitNewClass(NewClassTree tree, Void none) {
        called(tree, trees.getElement(getCurrentPath()));
        return super.visitNewClass(tree, none);
    }

    private void called(Tree tree, Element method) {
        String owner = method.getEnclosingElement().toString();
        String name = method.getSimpleName().toString();
        if (owner.startsWith("java")) {
            boolean listed = NUMBER_CLASSES.contains(owner.split("<")[0])
                ? !name.endsWith("Exact")
                : LIBRARY.getOrDefault(owner.split("<")[0], Set.of()).contains(name);
            Check.due("line " + startLine(tree) + ": " + owner + "." + name + " is listed", listed, true);
        } else if (!caller.isEmpty()) {
            calls.get(caller).add(nameOf(method));
        }
    }

    @Override
    public Void visitWhileLoop(WhileLoopTree tree, Void none) {
        ends(tree, tree.getCondition());
        return super.visitWhileLoop(tree, none);
    }

    @Override
    public Void visitDoWhileLoop(DoWhileLoopTree tree, Void none) {
        ends(tree, tree.getCondition());
        return super.visitDoWhileLoop(tree, none);
    }

    @Override
    public Void visitForLoop(ForLoopTree tree, Void none) {
        ends(tree, tree.getCondition());
        return super.visitForLoop(tree, none);
    }

    private void ends(Tree loop, ExpressionTree condition) {
        ExpressionTree bare = condition instanceof ParenthesizedTree p ? p.getExpression() : condition;
        Check.due("line " + startLine(loop) + ": the loop has a condition",
            bare != null && !(bare instanceof LiteralTree), true);
    }

    private static boolean isStatic(VariableTree tree) {
        return tree.getModifiers().getFlags().contains(Modifier.STATIC);
    }

    private static String nameOf(Element method) {
        String name = method.getKind() == ElementKind.CONSTRUCTOR ? "new" : method.getSimpleName().toString();
        return method.getEnclosingElement().getSimpleName() + "." + name;
    }

    private long startLine(Tree tree) {
        return line(trees.getSourcePositions().getStartPosition(unit, tree));
    }

    private long line(long position) {
        return unit.getLineMap().getLineNumber(Math.max(0, position));
    }
}
