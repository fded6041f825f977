import com.sun.source.tree.AssertTree;
import com.sun.source.tree.BinaryTree;
import com.sun.source.tree.ClassTree;
import com.sun.source.tree.CompilationUnitTree;
import com.sun.source.tree.CompoundAssignmentTree;
import com.sun.source.tree.DoWhileLoopTree;
import com.sun.source.tree.ExpressionTree;
import com.sun.source.tree.ForLoopTree;
import com.sun.source.tree.ImportTree;
import com.sun.source.tree.LambdaExpressionTree;
import com.sun.source.tree.LiteralTree;
import com.sun.source.tree.MemberReferenceTree;
import com.sun.source.tree.MethodInvocationTree;
import com.sun.source.tree.MethodTree;
import com.sun.source.tree.NewClassTree;
import com.sun.source.tree.SynchronizedTree;
import com.sun.source.tree.ThrowTree;
import com.sun.source.tree.Tree;
import com.sun.source.tree.TryTree;
import com.sun.source.tree.WhileLoopTree;
import com.sun.source.util.JavacTask;
import com.sun.source.util.TreePath;
import com.sun.source.util.TreePathScanner;
import com.sun.source.util.Trees;
import java.io.File;
import java.io.IOException;
import java.util.ArrayList;
import java.util.LinkedHashMap;
import java.util.LinkedHashSet;
import java.util.List;
import java.util.Map;
import java.util.Set;
import javax.lang.model.element.Element;
import javax.lang.model.element.ExecutableElement;
import javax.lang.model.element.VariableElement;
import javax.lang.model.type.TypeMirror;
import javax.tools.JavaCompiler;
import javax.tools.StandardJavaFileManager;
import javax.tools.ToolProvider;

/** What LANGUAGE.md rules out, as far as the source tells: how methods call one another above all. */
public final class SourceTest extends TreePathScanner<Void, Void> {
    private static final String SOURCE = "src/main/java/FirmTown.java";
    private static final Set<String> IMPORTS = Set.of("java.util.ArrayList", "java.util.Arrays",
            "java.util.NoSuchElementException");
    private static final int MOST_LINES = 60;
    private static final int MOST_DEEP = 8;
    private static final int MOST_CLASSES = 12;

    private final Trees trees;
    private final CompilationUnitTree unit;
    /** Of each method those of the program that it calls. */
    private final Map<ExecutableElement, Set<ExecutableElement>> calls = new LinkedHashMap<>();
    private ExecutableElement method = null;
    private int classes = 0;

    private SourceTest(Trees trees, CompilationUnitTree unit) {
        this.trees = trees;
        this.unit = unit;
    }

    public static void main(String[] args) throws IOException {
        JavaCompiler compiler = ToolProvider.getSystemJavaCompiler();
        try (StandardJavaFileManager files = compiler.getStandardFileManager(null, null, null)) {
            JavacTask task = (JavacTask) compiler.getTask(null, files, null, null, null,
                    files.getJavaFileObjects(new File(SOURCE)));
            Iterable<? extends CompilationUnitTree> units = task.parse();
            task.analyze();
            for (CompilationUnitTree unit : units) {
                new SourceTest(Trees.instance(task), unit).check();
            }
        }
        Check.close("SourceTest");
    }

    private void check() {
        Check.due("a package line", unit.getPackageName() != null, false);
        scan(unit, null);
        Check.due("classes", classes <= MOST_CLASSES, true);
        for (ExecutableElement m : calls.keySet()) {
            boolean recursive = reached(m).contains(m);
            Check.due("a depth is carried by " + m, !recursive || hasDepth(m), true);
        }
        for (ExecutableElement m : calls.keySet()) {
            int deep = deepest(m, new ArrayList<>());
            Check.due("calls from " + m + " go " + deep + " deep", deep <= MOST_DEEP, true);
        }
    }

    /** The methods that a method comes to by one call or more. */
    private Set<ExecutableElement> reached(ExecutableElement from) {
        Set<ExecutableElement> found = new LinkedHashSet<>(calls.get(from));
        List<ExecutableElement> open = new ArrayList<>(found);
        while (!open.isEmpty()) {
            for (ExecutableElement next : calls.get(open.remove(open.size() - 1))) {
                if (found.add(next)) {
                    open.add(next);
                }
            }
        }
        return found;
    }

    private static boolean hasDepth(ExecutableElement m) {
        for (VariableElement p : m.getParameters()) {
            if (p.getSimpleName().contentEquals("open")) {
                return true;
            }
        }
        return false;
    }

    /** How many methods stand open at most; those that call one another in a ring count once. */
    private int deepest(ExecutableElement m, List<ExecutableElement> ring) {
        boolean inRing = false;
        for (ExecutableElement other : ring) {
            inRing |= other.equals(m) || reached(m).contains(other);
        }
        List<ExecutableElement> here = inRing ? new ArrayList<>(ring) : new ArrayList<>();
        here.add(m);
        int most = 0;
        for (ExecutableElement next : calls.get(m)) {
            if (!here.contains(next)) {
                most = Math.max(most, deepest(next, here));
            }
        }
        return most + (inRing ? 0 : 1);
    }

    private String place(Tree tree) {
        long at = trees.getSourcePositions().getStartPosition(unit, tree);
        return "line " + unit.getLineMap().getLineNumber(at) + ": ";
    }

    private void never(Tree tree, String what) {
        Check.due(place(tree) + what, 1, 0);
    }

    private TypeMirror typeOf(Tree tree) {
        return trees.getTypeMirror(new TreePath(getCurrentPath(), tree));
    }

    private boolean isA(Tree tree, String type) {
        return type.equals(String.valueOf(typeOf(tree)));
    }

    @Override
    public Void visitImport(ImportTree tree, Void v) {
        String name = tree.getQualifiedIdentifier().toString();
        Check.due("import of " + name, IMPORTS.contains(name) && !tree.isStatic(), true);
        return null;
    }

    @Override
    public Void visitClass(ClassTree tree, Void v) {
        classes++;
        if (method != null) {
            never(tree, "a class inside a method");
        }
        return super.visitClass(tree, v);
    }

    @Override
    public Void visitMethod(MethodTree tree, Void v) {
        ExecutableElement before = method;
        method = (ExecutableElement) trees.getElement(getCurrentPath());
        calls.computeIfAbsent(method, m -> new LinkedHashSet<>());
        long from = trees.getSourcePositions().getStartPosition(unit, tree);
        long to = trees.getSourcePositions().getEndPosition(unit, tree);
        if (to > from) {
            long lines = unit.getLineMap().getLineNumber(to) - unit.getLineMap().getLineNumber(from);
            Check.due(place(tree) + "lines of " + method, lines < MOST_LINES, true);
        }
        super.visitMethod(tree, v);
        method = before;
        return null;
    }

    private void noteCall(Tree tree) {
        Element called = trees.getElement(new TreePath(getCurrentPath(), tree));
        boolean isOwn = called instanceof ExecutableElement
                && called.getEnclosingElement().toString().startsWith("FirmTown");
        if (isOwn && method != null) {
            calls.get(method).add((ExecutableElement) called);
            calls.computeIfAbsent((ExecutableElement) called, m -> new LinkedHashSet<>());
        }
    }

    @Override
    public Void visitMethodInvocation(MethodInvocationTree tree, Void v) {
        noteCall(tree.getMethodSelect());
        return super.visitMethodInvocation(tree, v);
    }

    @Override
    public Void visitNewClass(NewClassTree tree, Void v) {
        noteCall(tree);
        return super.visitNewClass(tree, v);
    }

    @Override
    public Void visitThrow(ThrowTree tree, Void v) {
        boolean isTold = method != null && !method.getThrownTypes().isEmpty()
                && tree.getExpression() instanceof NewClassTree made
                && method.getThrownTypes().get(0).toString().endsWith("." + made.getIdentifier());
        Check.due(place(tree) + "what is thrown is told", isTold, true);
        return super.visitThrow(tree, v);
    }

    private void bounded(Tree loop, ExpressionTree condition) {
        boolean always = condition == null || condition.toString().replaceAll("[()]", "").equals("true");
        Check.due(place(loop) + "a loop without an end", always, false);
    }

    @Override
    public Void visitForLoop(ForLoopTree tree, Void v) {
        bounded(tree, tree.getCondition());
        return super.visitForLoop(tree, v);
    }

    @Override
    public Void visitWhileLoop(WhileLoopTree tree, Void v) {
        bounded(tree, tree.getCondition());
        return super.visitWhileLoop(tree, v);
    }

    @Override
    public Void visitDoWhileLoop(DoWhileLoopTree tree, Void v) {
        bounded(tree, tree.getCondition());
        return super.visitDoWhileLoop(tree, v);
    }

    @Override
    public Void visitBinary(BinaryTree tree, Void v) {
        boolean texts = isText(tree.getLeftOperand()) || isText(tree.getRightOperand());
        Check.due(place(tree) + "a sign between texts or boxed numbers", texts, false);
        return super.visitBinary(tree, v);
    }

    @Override
    public Void visitCompoundAssignment(CompoundAssignmentTree tree, Void v) {
        Check.due(place(tree) + "a text that is added to", isText(tree.getVariable()), false);
        return super.visitCompoundAssignment(tree, v);
    }

    private boolean isText(Tree tree) {
        return isA(tree, "java.lang.String") || isA(tree, "java.lang.Integer");
    }

    @Override
    public Void visitLiteral(LiteralTree tree, Void v) {
        if (tree.getValue() instanceof String text) {
            for (int i = 0; i < text.length(); i++) {
                boolean plain = text.charAt(i) >= 1 && text.charAt(i) <= 127;
                Check.due(place(tree) + "a sign of a text", plain, true);
            }
        }
        return null;
    }

    @Override
    public Void visitTry(TryTree tree, Void v) {
        never(tree, "try");
        return super.visitTry(tree, v);
    }

    @Override
    public Void visitLambdaExpression(LambdaExpressionTree tree, Void v) {
        never(tree, "a lambda");
        return super.visitLambdaExpression(tree, v);
    }

    @Override
    public Void visitMemberReference(MemberReferenceTree tree, Void v) {
        never(tree, "a method reference");
        return super.visitMemberReference(tree, v);
    }

    @Override
    public Void visitAssert(AssertTree tree, Void v) {
        never(tree, "assert");
        return super.visitAssert(tree, v);
    }

    @Override
    public Void visitSynchronized(SynchronizedTree tree, Void v) {
        never(tree, "synchronized");
        return super.visitSynchronized(tree, v);
    }
}
