import com.sun.source.tree.ClassTree;
import com.sun.source.tree.CompilationUnitTree;
import com.sun.source.tree.ForLoopTree;
import com.sun.source.tree.MethodInvocationTree;
import com.sun.source.tree.MethodTree;
import com.sun.source.tree.Tree;
import com.sun.source.tree.VariableTree;
import com.sun.source.tree.WhileLoopTree;
import com.sun.source.util.JavacTask;
import com.sun.source.util.TreePath;
import com.sun.source.util.TreePathScanner;
import com.sun.source.util.Trees;
import java.nio.file.Path;
import java.util.HashSet;
import java.util.LinkedHashMap;
import java.util.LinkedHashSet;
import java.util.Map;
import java.util.Set;
import javax.lang.model.element.Element;
import javax.lang.model.element.ElementKind;
import javax.lang.model.element.Modifier;
import javax.tools.JavaCompiler;
import javax.tools.StandardJavaFileManager;
import javax.tools.ToolProvider;

/** Tests what LANGUAGE.md says of classes, methods and calls; the argument is the program's file. */
public final class StructureTest extends TreePathScanner<Void, Void> {
    // The library's calls that the program makes; each of them stands in rule 4.
    private static final Set<String> LIBRARY = Set.of("java.lang.Integer.bitCount", "java.lang.Long.bitCount",
        "java.lang.Math.max");
    private static final Set<Tree.Kind> FORBIDDEN = Set.of(Tree.Kind.LAMBDA_EXPRESSION, Tree.Kind.MEMBER_REFERENCE,
        Tree.Kind.THROW, Tree.Kind.TRY, Tree.Kind.SYNCHRONIZED, Tree.Kind.ASSERT, Tree.Kind.TYPE_CAST,
        Tree.Kind.DIVIDE, Tree.Kind.DIVIDE_ASSIGNMENT, Tree.Kind.ANNOTATION);

    private final Trees trees;
    private final CompilationUnitTree unit;
    private final Map<Element, Set<Element>> calls = new LinkedHashMap<>();
    private final Set<String> publicMethods = new HashSet<>();
    private final Set<String> otherMethods = new HashSet<>();
    private Element method = null;
    private int classes = 0;
    private int faults = 0;

    private StructureTest(Trees trees, CompilationUnitTree unit) {
        this.trees = trees;
        this.unit = unit;
    }

    public static void main(String[] args) throws Exception {
        JavaCompiler compiler = ToolProvider.getSystemJavaCompiler();
        StandardJavaFileManager files = compiler.getStandardFileManager(null, null, null);
        JavacTask task = (JavacTask) compiler.getTask(null, files, null, null, null,
            files.getJavaFileObjects(Path.of(args[0])));
        CompilationUnitTree unit = task.parse().iterator().next();
        task.analyze();
        StructureTest test = new StructureTest(Trees.instance(task), unit);
        test.scan(unit, null);
        test.judge();
    }

    private void fault(String what) {
        faults++;
        System.out.println("not as LANGUAGE.md says: " + what);
    }

    private void judge() {
        if (classes > 12) {
            fault(classes + " classes");
        }
        otherMethods.retainAll(publicMethods);
        if (!otherMethods.isEmpty()) {
            fault("private methods with names of public ones: " + otherMethods);
        }
        int deepest = 0;
        for (Element e : calls.keySet()) {
            deepest = Math.max(deepest, depth(e, new LinkedHashSet<>()));
        }
        if (deepest > 8) {
            fault("calls go " + deepest + " deep");
        }
        if (faults != 0) {
            System.exit(1);
        }
        System.out.println("the structure is as due: " + classes + " classes, " + calls.size()
            + " methods, calls at most " + deepest + " deep");
    }

    /** How many calls stand open at once at most when this method is called, with those of the library. */
    private int depth(Element e, Set<Element> open) {
        if (!open.add(e)) {
            fault("recursion: " + open);
            return 0;
        }
        int deepest = 0;
        for (Element called : calls.getOrDefault(e, Set.of())) {
            deepest = Math.max(deepest, depth(called, open));
        }
        open.remove(e);
        return deepest + 1;
    }

    private long lines(Tree tree) {
        long start = trees.getSourcePositions().getStartPosition(unit, tree);
        long end = trees.getSourcePositions().getEndPosition(unit, tree);
        return unit.getLineMap().getLineNumber(end) - unit.getLineMap().getLineNumber(start) + 1;
    }

    private Element element(Tree tree) {
        return trees.getElement(TreePath.getPath(unit, tree));
    }

    @Override
    public Void scan(Tree tree, Void nothing) {
        if (tree != null && FORBIDDEN.contains(tree.getKind())) {
            fault(tree.toString());
        }
        return super.scan(tree, nothing);
    }

    @Override
    public Void visitClass(ClassTree tree, Void nothing) {
        classes++;
        Element e = element(tree);
        boolean inside = e.getEnclosingElement().getKind() != ElementKind.PACKAGE;
        if (inside && (e.getKind() != ElementKind.CLASS || !e.getModifiers().contains(Modifier.STATIC)
            || e.getModifiers().contains(Modifier.PUBLIC) || e.getModifiers().contains(Modifier.PROTECTED))) {
            fault("class " + e);
        }
        int fields = 0;
        for (Tree member : tree.getMembers()) {
            if (member instanceof VariableTree && !element(member).getModifiers().contains(Modifier.STATIC)) {
                fields++;
            }
        }
        if (fields > 20) {
            fault(fields + " fields in " + e);
        }
        return super.visitClass(tree, nothing);
    }

    @Override
    public Void visitMethod(MethodTree tree, Void nothing) {
        method = element(tree);
        calls.put(method, new LinkedHashSet<>());
        if (method.getKind() == ElementKind.METHOD) {
            (method.getModifiers().contains(Modifier.PUBLIC) ? publicMethods : otherMethods).add(
                method.getSimpleName().toString());
        }
        if (tree.getParameters().size() > 7) {
            fault("parameters of " + method);
        }
        if (lines(tree) > 60) {
            fault("lines of " + method);
        }
        return super.visitMethod(tree, nothing);
    }

    @Override
    public Void visitMethodInvocation(MethodInvocationTree tree, Void nothing) {
        Element called = element(tree.getMethodSelect());
        String owner = called.getEnclosingElement().toString();
        if (!owner.startsWith("NetSynthesizer") && !owner.equals("java.lang.Object")
            && !LIBRARY.contains(owner + "." + called.getSimpleName())) {
            fault("a call of " + owner + "." + called);
        }
        if (method != null && called.getKind() == ElementKind.METHOD) {
            calls.get(method).add(called);
        }
        return super.visitMethodInvocation(tree, nothing);
    }

    @Override
    public Void visitWhileLoop(WhileLoopTree tree, Void nothing) {
        if (!tree.getCondition().toString().contains("<")) {
            fault("a loop without a bound: " + tree.getCondition());
        }
        return super.visitWhileLoop(tree, nothing);
    }

    @Override
    public Void visitForLoop(ForLoopTree tree, Void nothing) {
        if (tree.getCondition() == null || !tree.getCondition().toString().contains("<")) {
            fault("a loop without a bound: " + tree.getCondition());
        }
        return super.visitForLoop(tree, nothing);
    }
}
