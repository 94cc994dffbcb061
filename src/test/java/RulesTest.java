import com.sun.source.tree.ArrayAccessTree;
import com.sun.source.tree.AssignmentTree;
import com.sun.source.tree.BinaryTree;
import com.sun.source.tree.ClassTree;
import com.sun.source.tree.CompilationUnitTree;
import com.sun.source.tree.CompoundAssignmentTree;
import com.sun.source.tree.DoWhileLoopTree;
import com.sun.source.tree.EnhancedForLoopTree;
import com.sun.source.tree.ExpressionTree;
import com.sun.source.tree.ForLoopTree;
import com.sun.source.tree.LambdaExpressionTree;
import com.sun.source.tree.LiteralTree;
import com.sun.source.tree.MemberReferenceTree;
import com.sun.source.tree.MethodInvocationTree;
import com.sun.source.tree.MethodTree;
import com.sun.source.tree.NewArrayTree;
import com.sun.source.tree.NewClassTree;
import com.sun.source.tree.ThrowTree;
import com.sun.source.tree.Tree;
import com.sun.source.tree.TryTree;
import com.sun.source.tree.TypeCastTree;
import com.sun.source.tree.UnaryTree;
import com.sun.source.tree.VariableTree;
import com.sun.source.tree.WhileLoopTree;
import com.sun.source.util.JavacTask;
import com.sun.source.util.TreePath;
import com.sun.source.util.TreePathScanner;
import com.sun.source.util.Trees;
import java.nio.file.Path;
import java.util.ArrayList;
import java.util.HashMap;
import java.util.HashSet;
import java.util.List;
import java.util.Map;
import java.util.Set;
import java.util.TreeMap;
import java.util.TreeSet;
import javax.lang.model.element.Element;
import javax.lang.model.element.ElementKind;
import javax.lang.model.element.ExecutableElement;
import javax.lang.model.element.Modifier;
import javax.lang.model.element.TypeElement;
import javax.lang.model.type.ArrayType;
import javax.lang.model.type.TypeKind;
import javax.lang.model.type.TypeMirror;
import javax.tools.JavaCompiler;
import javax.tools.StandardJavaFileManager;
import javax.tools.ToolProvider;

/** What the compiler's tree of the class can show of LANGUAGE.md's rules, stricter where the class needs no more. */
public final class RulesTest extends TreePathScanner<Void, Void> {
    private static final Set<String> LIBRARY = Set.of("java.lang.System.arraycopy", "java.lang.Math.abs",
            "java.lang.Math.min", "java.lang.Math.max");
    private static final Set<String> EXCEPTIONS = Set.of("java.lang.IllegalStateException",
            "java.lang.IllegalArgumentException", "java.lang.IndexOutOfBoundsException",
            "java.lang.ArithmeticException", "java.lang.UnsupportedOperationException",
            "java.util.NoSuchElementException");

    private final Trees trees;
    private final CompilationUnitTree unit;
    private final Map<Element, Set<Element>> calls = new HashMap<>();
    private final Set<Element> throwers = new HashSet<>();
    private final Map<String, Integer> fields = new TreeMap<>();
    private final List<String> broken = new ArrayList<>();
    private int classes;
    private int loops;

    private RulesTest(Trees trees, CompilationUnitTree unit) {
        this.trees = trees;
        this.unit = unit;
    }

    public static void main(String[] args) throws Exception {
        Path file = Path.of(System.getProperty("project.root", "."), "src/main/java/Tetrahedry.java");
        JavaCompiler compiler = ToolProvider.getSystemJavaCompiler();
        StandardJavaFileManager files = compiler.getStandardFileManager(null, null, null);
        JavacTask task = (JavacTask) compiler.getTask(null, files, null, List.of("-proc:none"), null,
                files.getJavaFileObjects(file));
        CompilationUnitTree unit = task.parse().iterator().next();
        task.analyze();
        RulesTest rules = new RulesTest(Trees.instance(task), unit);
        rules.scan(unit, null);
        rules.tell();
        Check.end("RulesTest");
    }

    private void tell() {
        Check.tell("rows that break a rule", List.of(), broken);
        Check.tell("11: one class in the file and at most some twelve in all", true, classes > 1 && classes <= 12);
        for (Map.Entry<String, Integer> entry : fields.entrySet()) {
            Check.tell("11: at most some twenty fields of " + entry.getKey(), true, entry.getValue() <= 20);
        }
        Check.tell("loops are met", true, loops > 50);
        int deepest = 0;
        for (Element method : calls.keySet()) {
            int depth = depth(method, new ArrayList<>());
            Check.tell("8, 11: " + method + " goes at most eight deep", true, depth > 0 && depth <= 8);
            deepest = Math.max(deepest, depth);
        }
        Check.tell("calls are met", true, deepest > 4);
        System.out.println("calls go " + deepest + " deep");
    }

    /** How many calls stand open at once, this one too; -1 if a method calls itself by whatever way. */
    private int depth(Element method, List<Element> open) {
        if (open.contains(method)) {
            return -1;
        }
        open.add(method);
        int deepest = 0;
        for (Element called : calls.getOrDefault(method, Set.of())) {
            int depth = depth(called, open);
            if (depth < 0) {
                return -1;
            }
            deepest = Math.max(deepest, depth);
        }
        open.remove(method);
        return deepest + 1;
    }

    private void must(boolean kept, int rule, Tree tree) {
        if (!kept) {
            long line = unit.getLineMap().getLineNumber(trees.getSourcePositions().getStartPosition(unit, tree));
            broken.add(rule + " in line " + line + ": " + tree.toString().lines().findFirst().orElse(""));
        }
    }

    private Element element() {
        return trees.getElement(getCurrentPath());
    }

    private TypeMirror type(Tree tree) {
        return trees.getTypeMirror(new TreePath(getCurrentPath(), tree));
    }

    /** The method or constructor that the tree stands in, null in a field's initialiser. */
    private ExecutableElement around() {
        for (TreePath path = getCurrentPath(); path != null; path = path.getParentPath()) {
            if (path.getLeaf() instanceof MethodTree) {
                return (ExecutableElement) trees.getElement(path);
            }
        }
        return null;
    }

    private boolean isOwn(Element element) {
        Element top = element;
        while (top != null && top.getEnclosingElement() != null
                && top.getEnclosingElement().getKind() != ElementKind.PACKAGE) {
            top = top.getEnclosingElement();
        }
        return top != null && top.getSimpleName().contentEquals("Tetrahedry");
    }

    private boolean isOwnType(TypeMirror type) {
        return type.getKind() == TypeKind.DECLARED
                && isOwn(((javax.lang.model.type.DeclaredType) type).asElement());
    }

    private boolean isAllowed(TypeMirror type) {
        if (type.getKind() == TypeKind.ARRAY) {
            return ((ArrayType) type).getComponentType().getKind().isPrimitive();
        }
        return type.getKind().isPrimitive() || type.getKind() == TypeKind.VOID || isOwnType(type);
    }

    @Override
    public Void visitClass(ClassTree tree, Void p) {
        classes++;
        TypeElement element = (TypeElement) element();
        Set<Modifier> modifiers = element.getModifiers();
        boolean top = element.getEnclosingElement().getKind() == ElementKind.PACKAGE;
        must(top ? modifiers.containsAll(Set.of(Modifier.PUBLIC, Modifier.FINAL))
                : modifiers.containsAll(Set.of(Modifier.PRIVATE, Modifier.STATIC)), 1, tree);
        must(tree.getExtendsClause() == null && tree.getImplementsClause().isEmpty(), 2, tree);
        return super.visitClass(tree, p);
    }

    @Override
    public Void visitMethod(MethodTree tree, Void p) {
        ExecutableElement method = (ExecutableElement) element();
        calls.putIfAbsent(method, new HashSet<>());
        must(tree.getParameters().size() <= 7, 11, tree);
        long start = trees.getSourcePositions().getStartPosition(unit, tree);
        long end = trees.getSourcePositions().getEndPosition(unit, tree);
        if (start >= 0 && end >= 0) {
            must(unit.getLineMap().getLineNumber(end) - unit.getLineMap().getLineNumber(start) < 60, 11, tree);
        }
        must(isAllowed(method.getReturnType()), 3, tree);
        boolean object = Set.of("equals", "hashCode", "toString").contains(method.getSimpleName().toString());
        must(!object, 6, tree);
        return super.visitMethod(tree, p);
    }

    @Override
    public Void visitVariable(VariableTree tree, Void p) {
        Element variable = element();
        must(isAllowed(variable.asType()), 3, tree);
        if (variable.getKind() == ElementKind.FIELD) {
            boolean constant = variable.getModifiers().contains(Modifier.STATIC);
            must(!constant || variable.getModifiers().contains(Modifier.FINAL) && isWrittenOut(tree.getInitializer()),
                    5, tree);
            fields.merge(variable.getEnclosingElement().toString(), constant ? 0 : 1, Integer::sum);
        }
        return super.visitVariable(tree, p);
    }

    private static boolean isWrittenOut(ExpressionTree initialiser) {
        if (initialiser instanceof NewArrayTree) {
            NewArrayTree array = (NewArrayTree) initialiser;
            return array.getInitializers() != null
                    && array.getInitializers().stream().allMatch(each -> each instanceof LiteralTree);
        }
        return initialiser instanceof LiteralTree;
    }

    @Override
    public Void visitMethodInvocation(MethodInvocationTree tree, Void p) {
        Element called = element();
        Element owner = called.getEnclosingElement();
        boolean own = isOwn(called) || called.getKind() == ElementKind.CONSTRUCTOR;
        must(own || LIBRARY.contains(owner + "." + called.getSimpleName()), 4, tree);
        if (around() != null && called.getKind() != ElementKind.CONSTRUCTOR) {
            calls.computeIfAbsent(around(), k -> new HashSet<>()).add(called);
            must(around().getKind() != ElementKind.CONSTRUCTOR, 12, tree);
        }
        return super.visitMethodInvocation(tree, p);
    }

    /** What is made is made as the object is; but for an exception, as it is thrown. */
    @Override
    public Void visitNewClass(NewClassTree tree, Void p) {
        boolean thrown = getCurrentPath().getParentPath().getLeaf() instanceof ThrowTree;
        boolean making = around() == null || around().getKind() == ElementKind.CONSTRUCTOR;
        must(thrown || making && isOwn(element()), 12, tree);
        must(tree.getClassBody() == null, 2, tree);
        return super.visitNewClass(tree, p);
    }

    @Override
    public Void visitNewArray(NewArrayTree tree, Void p) {
        must(around() == null || around().getKind() == ElementKind.CONSTRUCTOR, 12, tree);
        must(tree.getDimensions().size() < 2, 3, tree);
        return super.visitNewArray(tree, p);
    }

    @Override
    public Void visitThrow(ThrowTree tree, Void p) {
        boolean fits = tree.getExpression() instanceof NewClassTree;
        if (fits) {
            NewClassTree made = (NewClassTree) tree.getExpression();
            fits = EXCEPTIONS.contains(String.valueOf(type(made))) && made.getArguments().size() == 1
                    && made.getArguments().get(0) instanceof LiteralTree;
        }
        must(fits && around() != null && around().getKind() != ElementKind.CONSTRUCTOR, 6, tree);
        must(around().getEnclosingElement().getSimpleName().contentEquals("Tetrahedry"), 6, tree);
        return super.visitThrow(tree, p);
    }

    /** A counter that rises to a bound, or falls to one. */
    @Override
    public Void visitForLoop(ForLoopTree tree, Void p) {
        loops++;
        boolean counted = tree.getInitializer().size() == 1 && tree.getUpdate().size() == 1
                && tree.getInitializer().get(0) instanceof VariableTree;
        if (counted) {
            String name = ((VariableTree) tree.getInitializer().get(0)).getName().toString();
            counted = tree.getUpdate().get(0).getExpression().toString().equals(name + "++")
                    && leftmost(tree.getCondition()).startsWith(name + " < ");
            must(!tree.getStatement().toString().matches("(?s).*(?<![\\w.])" + name + "( [-+*/%|&^]?= |\\+\\+|--).*"), 9,
                    tree);
        }
        must(counted, 9, tree);
        return super.visitForLoop(tree, p);
    }

    private static String leftmost(ExpressionTree condition) {
        ExpressionTree now = condition;
        while (now instanceof BinaryTree && now.getKind() == Tree.Kind.CONDITIONAL_AND) {
            now = ((BinaryTree) now).getLeftOperand();
        }
        return now.toString();
    }

    @Override
    public Void visitWhileLoop(WhileLoopTree tree, Void p) {
        must(false, 9, tree);
        return super.visitWhileLoop(tree, p);
    }

    @Override
    public Void visitDoWhileLoop(DoWhileLoopTree tree, Void p) {
        must(false, 9, tree);
        return super.visitDoWhileLoop(tree, p);
    }

    @Override
    public Void visitEnhancedForLoop(EnhancedForLoopTree tree, Void p) {
        must(type(tree.getExpression()).getKind() == TypeKind.ARRAY, 9, tree);
        return super.visitEnhancedForLoop(tree, p);
    }

    @Override
    public Void visitTry(TryTree tree, Void p) {
        must(false, 6, tree);
        return super.visitTry(tree, p);
    }

    @Override
    public Void visitLambdaExpression(LambdaExpressionTree tree, Void p) {
        must(false, 2, tree);
        return super.visitLambdaExpression(tree, p);
    }

    @Override
    public Void visitMemberReference(MemberReferenceTree tree, Void p) {
        must(false, 2, tree);
        return super.visitMemberReference(tree, p);
    }

    @Override
    public Void visitTypeCast(TypeCastTree tree, Void p) {
        must(type(tree.getType()).getKind().isPrimitive(), 6, tree);
        return super.visitTypeCast(tree, p);
    }

    /** Texts are not joined, and a divisor is no variable but behind a test of it. */
    @Override
    public Void visitBinary(BinaryTree tree, Void p) {
        TypeMirror whole = type(tree);
        must(whole.getKind().isPrimitive(), 10, tree);
        if (tree.getKind() == Tree.Kind.DIVIDE || tree.getKind() == Tree.Kind.REMAINDER) {
            ExpressionTree divisor = tree.getRightOperand();
            Element named = trees.getElement(new TreePath(getCurrentPath(), divisor));
            boolean constant = divisor instanceof LiteralTree
                    || named instanceof javax.lang.model.element.VariableElement
                    && ((javax.lang.model.element.VariableElement) named).getConstantValue() != null;
            must(constant || isTestedBefore(divisor.toString(), tree.toString()), 7, tree);
        }
        return super.visitBinary(tree, p);
    }

    private boolean isTestedBefore(String divisor, String division) {
        String name = divisor.replaceFirst("^\\((float|double)\\)", "");
        String method = "";
        for (TreePath path = getCurrentPath(); path != null && method.isEmpty(); path = path.getParentPath()) {
            method = path.getLeaf() instanceof MethodTree ? path.getLeaf().toString() : "";
        }
        String before = method.substring(0, Math.max(0, method.indexOf(division)));
        return before.contains(name + " != 0") || before.contains("if (" + name + " == 0)");
    }

    @Override
    public Void visitAssignment(AssignmentTree tree, Void p) {
        must(isNoConstant(tree.getVariable()), 5, tree);
        return super.visitAssignment(tree, p);
    }

    @Override
    public Void visitCompoundAssignment(CompoundAssignmentTree tree, Void p) {
        must(isNoConstant(tree.getVariable()), 5, tree);
        return super.visitCompoundAssignment(tree, p);
    }

    @Override
    public Void visitUnary(UnaryTree tree, Void p) {
        boolean changes = tree.toString().contains("++") || tree.toString().contains("--");
        must(!changes || isNoConstant(tree.getExpression()), 5, tree);
        return super.visitUnary(tree, p);
    }

    /** An element of a constant row is never changed. */
    private boolean isNoConstant(ExpressionTree changed) {
        if (!(changed instanceof ArrayAccessTree)) {
            return true;
        }
        ExpressionTree row = ((ArrayAccessTree) changed).getExpression();
        Element named = trees.getElement(new TreePath(getCurrentPath(), row));
        return named == null || !named.getModifiers().contains(Modifier.STATIC);
    }
}
