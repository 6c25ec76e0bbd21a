import com.sun.source.tree.ArrayAccessTree;
import com.sun.source.tree.AssertTree;
import com.sun.source.tree.AssignmentTree;
import com.sun.source.tree.BinaryTree;
import com.sun.source.tree.BlockTree;
import com.sun.source.tree.ClassTree;
import com.sun.source.tree.CompilationUnitTree;
import com.sun.source.tree.CompoundAssignmentTree;
import com.sun.source.tree.DoWhileLoopTree;
import com.sun.source.tree.EnhancedForLoopTree;
import com.sun.source.tree.ExpressionTree;
import com.sun.source.tree.ForLoopTree;
import com.sun.source.tree.ImportTree;
import com.sun.source.tree.InstanceOfTree;
import com.sun.source.tree.LambdaExpressionTree;
import com.sun.source.tree.LiteralTree;
import com.sun.source.tree.MemberReferenceTree;
import com.sun.source.tree.MethodInvocationTree;
import com.sun.source.tree.MethodTree;
import com.sun.source.tree.NewArrayTree;
import com.sun.source.tree.NewClassTree;
import com.sun.source.tree.PackageTree;
import com.sun.source.tree.ParenthesizedTree;
import com.sun.source.tree.SynchronizedTree;
import com.sun.source.tree.ThrowTree;
import com.sun.source.tree.Tree;
import com.sun.source.tree.TryTree;
import com.sun.source.tree.TypeCastTree;
import com.sun.source.tree.UnaryTree;
import com.sun.source.tree.VariableTree;
import com.sun.source.tree.WhileLoopTree;
import com.sun.source.util.JavacTask;
import com.sun.source.util.TreePath;
import com.sun.source.util.TreePathScanner;
import com.sun.source.util.Trees;
import java.io.IOException;
import java.util.Set;
import javax.lang.model.element.Element;
import javax.lang.model.element.ElementKind;
import javax.lang.model.element.Modifier;
import javax.lang.model.element.VariableElement;
import javax.lang.model.type.ArrayType;
import javax.lang.model.type.TypeKind;
import javax.lang.model.type.TypeMirror;

/** Reads the program as the compiler does, and tells what the rules do not leave. */
final class RuleReader extends TreePathScanner<Void, Void> {
    /** What the program needs of the library that rule 4 leaves: add to it with care. */
    private static final Set<String> LIBRARY = Set.of("java.lang.Math.abs", "java.lang.Math.max",
            "java.lang.Math.min", "java.lang.System.arraycopy");
    private static final int LONGEST_METHOD = 60;

    private final Due due;
    private final JavacTask task;
    private final Trees trees;
    private final CallTree calls = new CallTree();
    private CompilationUnitTree unit;

    RuleReader(Due due, JavacTask task) {
        this.due = due;
        this.task = task;
        this.trees = Trees.instance(task);
    }

    CallTree calls() {
        return calls;
    }

    void readProgram() throws IOException {
        int files = 0;
        Iterable<? extends CompilationUnitTree> parsed = task.parse();
        task.analyze();
        for (CompilationUnitTree file : parsed) {
            files++;
            unit = file;
            due.is("classes of the file", file.getTypeDecls().size(), 1);
            scan(file, null);
        }
        due.is("files", files, 1);
    }

    private long line(Tree tree) {
        return unit.getLineMap().getLineNumber(
                trees.getSourcePositions().getStartPosition(unit, tree));
    }

    private long lastLine(Tree tree) {
        return unit.getLineMap().getLineNumber(
                trees.getSourcePositions().getEndPosition(unit, tree));
    }

    private void rule(int number, String what, Tree tree, boolean kept) {
        due.holds("rule " + number + ", line " + line(tree) + ": " + what, kept);
    }

    private Element element(Tree tree) {
        return trees.getElement(trees.getPath(unit, tree));
    }

    private TypeMirror type(Tree tree) {
        return trees.getTypeMirror(trees.getPath(unit, tree));
    }

    private static boolean isOwn(Element element) {
        Element outermost = element;
        while (outermost != null && outermost.getEnclosingElement() != null
                && outermost.getEnclosingElement().getKind() != ElementKind.PACKAGE) {
            outermost = outermost.getEnclosingElement();
        }
        return outermost != null && outermost.getSimpleName().contentEquals("SpanSpotter");
    }

    /** The method or class in which the present tree stands. */
    private Tree home() {
        TreePath path = getCurrentPath().getParentPath();
        while (!(path.getLeaf() instanceof MethodTree) && !(path.getLeaf() instanceof ClassTree)) {
            path = path.getParentPath();
        }
        return path.getLeaf();
    }

    private static boolean isConstructor(Tree tree) {
        return tree instanceof MethodTree && ((MethodTree) tree).getName().contentEquals("<init>");
    }

    private String nameOf(Element method) {
        return method.getEnclosingElement().getSimpleName() + "." + method.getSimpleName();
    }

    @Override
    public Void visitImport(ImportTree tree, Void v) {
        rule(4, "an import", tree, false);
        return super.visitImport(tree, v);
    }

    @Override
    public Void visitPackage(PackageTree tree, Void v) {
        rule(1, "a package line", tree, false);
        return super.visitPackage(tree, v);
    }

    @Override
    public Void visitClass(ClassTree tree, Void v) {
        Tree outer = getCurrentPath().getParentPath().getLeaf();
        boolean inside = !(outer instanceof CompilationUnitTree);
        rule(2, "no local or anonymous class", tree, !inside || outer instanceof ClassTree);
        rule(2, "a class inside is static", tree, !inside
                || tree.getModifiers().getFlags().contains(Modifier.STATIC));
        for (Tree member : tree.getMembers()) {
            rule(5, "no initialiser block", member, !(member instanceof BlockTree));
        }
        return super.visitClass(tree, v);
    }

    @Override
    public Void visitMethod(MethodTree tree, Void v) {
        rule(11, tree.getName() + " takes at most seven", tree, tree.getParameters().size() <= 7);
        rule(11, tree.getName() + " is short", tree,
                lastLine(tree) - line(tree) < LONGEST_METHOD);
        rule(6, tree.getName() + " throws nothing", tree, tree.getThrows().isEmpty());
        rule(3, tree.getName() + " returns what rule 3 leaves", tree,
                isConstructor(tree) || isLeft(type(tree.getReturnType())));
        return super.visitMethod(tree, v);
    }

    @Override
    public Void visitVariable(VariableTree tree, Void v) {
        rule(3, tree.getName() + " is of a type of rule 3", tree, isLeft(type(tree)));
        if (tree.getModifiers().getFlags().contains(Modifier.STATIC)) {
            rule(5, tree.getName() + " is final", tree,
                    tree.getModifiers().getFlags().contains(Modifier.FINAL));
            rule(5, tree.getName() + " is a constant or a row written out", tree,
                    isConstant(tree) || isWrittenOut(tree));
        }
        return super.visitVariable(tree, v);
    }

    private boolean isConstant(VariableTree tree) {
        return ((VariableElement) element(tree)).getConstantValue() != null;
    }

    private boolean isWrittenOut(VariableTree tree) {
        return tree.getInitializer() instanceof NewArrayTree
                && ((NewArrayTree) tree.getInitializer()).getInitializers() != null
                && ((ArrayType) type(tree)).getComponentType().getKind().isPrimitive();
    }

    /** Numbers, texts, own classes, rows of these, and tables of numbers. */
    private static boolean isLeft(TypeMirror type) {
        if (!(type instanceof ArrayType)) {
            return isPlain(type);
        }
        TypeMirror inside = ((ArrayType) type).getComponentType();
        return inside instanceof ArrayType
                ? ((ArrayType) inside).getComponentType().getKind().isPrimitive()
                : isPlain(inside);
    }

    private static boolean isPlain(TypeMirror type) {
        // Doubles and floats would be fine within bounds, but nothing here needs them.
        boolean number = type.getKind().isPrimitive() && type.getKind() != TypeKind.DOUBLE
                && type.getKind() != TypeKind.FLOAT;
        return number || type.getKind() == TypeKind.VOID || type.toString().startsWith("SpanSpotter")
                || type.toString().equals("java.lang.String");
    }

    @Override
    public Void visitMethodInvocation(MethodInvocationTree tree, Void v) {
        Element method = element(tree);
        String name = method.getEnclosingElement() + "." + method.getSimpleName();
        if (isOwn(method)) {
            if (home() instanceof MethodTree) {
                calls.add(nameOf(element(home())), nameOf(method));
            }
        } else if (!name.equals("java.lang.Object.<init>")) {
            rule(4, name + " is of the library that is left", tree, LIBRARY.contains(name));
        }
        return super.visitMethodInvocation(tree, v);
    }

    @Override
    public Void visitNewClass(NewClassTree tree, Void v) {
        rule(2, "no class without a name", tree, tree.getClassBody() == null);
        rule(4, "only own objects are made", tree, isOwn(element(tree)));
        rule(12, "no call makes an object", tree,
                home() instanceof ClassTree || isConstructor(home()));
        return super.visitNewClass(tree, v);
    }

    @Override
    public Void visitNewArray(NewArrayTree tree, Void v) {
        rule(12, "no call makes a row", tree, home() instanceof ClassTree || isConstructor(home()));
        return super.visitNewArray(tree, v);
    }

    @Override
    public Void visitAssignment(AssignmentTree tree, Void v) {
        rule(5, "a row of constants stays", tree, !isFixedRow(tree.getVariable()));
        return super.visitAssignment(tree, v);
    }

    @Override
    public Void visitCompoundAssignment(CompoundAssignmentTree tree, Void v) {
        rule(5, "a row of constants stays", tree, !isFixedRow(tree.getVariable()));
        rule(10, "no texts joined", tree, !isText(tree.getVariable()));
        rule(7, "no divisor that may be 0", tree,
                tree.getKind() != Tree.Kind.DIVIDE_ASSIGNMENT
                && tree.getKind() != Tree.Kind.REMAINDER_ASSIGNMENT);
        return super.visitCompoundAssignment(tree, v);
    }

    @Override
    public Void visitUnary(UnaryTree tree, Void v) {
        boolean changes = tree.getKind() == Tree.Kind.POSTFIX_INCREMENT
                || tree.getKind() == Tree.Kind.POSTFIX_DECREMENT
                || tree.getKind() == Tree.Kind.PREFIX_INCREMENT
                || tree.getKind() == Tree.Kind.PREFIX_DECREMENT;
        rule(5, "a row of constants stays", tree, !changes || !isFixedRow(tree.getExpression()));
        return super.visitUnary(tree, v);
    }

    private boolean isFixedRow(ExpressionTree target) {
        ExpressionTree row = target;
        while (row instanceof ArrayAccessTree) {
            row = ((ArrayAccessTree) row).getExpression();
        }
        Element element = element(row);
        return row != target && element != null
                && element.getModifiers().contains(Modifier.STATIC);
    }

    private boolean isText(Tree tree) {
        return "java.lang.String".equals(String.valueOf(type(tree)));
    }

    @Override
    public Void visitBinary(BinaryTree tree, Void v) {
        boolean texts = isText(tree.getLeftOperand()) || isText(tree.getRightOperand());
        rule(10, "no texts joined or compared as objects", tree, !texts);
        return super.visitBinary(tree, v);
    }

    @Override
    public Void visitForLoop(ForLoopTree tree, Void v) {
        rule(9, "the loop has an end", tree, isBound(tree.getCondition())
                && !tree.getUpdate().isEmpty());
        return super.visitForLoop(tree, v);
    }

    @Override
    public Void visitWhileLoop(WhileLoopTree tree, Void v) {
        rule(9, "the loop has an end", tree, isBound(tree.getCondition()));
        return super.visitWhileLoop(tree, v);
    }

    @Override
    public Void visitDoWhileLoop(DoWhileLoopTree tree, Void v) {
        rule(9, "the loop has an end", tree, isBound(tree.getCondition()));
        return super.visitDoWhileLoop(tree, v);
    }

    @Override
    public Void visitEnhancedForLoop(EnhancedForLoopTree tree, Void v) {
        rule(12, "loops go by index", tree, type(tree.getExpression()) instanceof ArrayType);
        return super.visitEnhancedForLoop(tree, v);
    }

    /** A counter against a bound, alone or before other conditions. */
    private static boolean isBound(ExpressionTree condition) {
        ExpressionTree first = condition;
        while (first instanceof ParenthesizedTree) {
            first = ((ParenthesizedTree) first).getExpression();
        }
        while (first != null && first.getKind() == Tree.Kind.CONDITIONAL_AND) {
            first = ((BinaryTree) first).getLeftOperand();
        }
        return first != null && Set.of(Tree.Kind.LESS_THAN, Tree.Kind.LESS_THAN_EQUAL,
                Tree.Kind.GREATER_THAN, Tree.Kind.GREATER_THAN_EQUAL).contains(first.getKind());
    }

    @Override
    public Void visitLiteral(LiteralTree tree, Void v) {
        boolean plain = true;
        if (tree.getValue() instanceof String) {
            plain = ((String) tree.getValue()).chars().allMatch(c -> c >= 1 && c <= 127);
        }
        rule(4, "a text of plain signs", tree, plain);
        return super.visitLiteral(tree, v);
    }

    @Override
    public Void visitTypeCast(TypeCastTree tree, Void v) {
        rule(6, "a cast among numbers alone", tree, type(tree).getKind().isPrimitive());
        return super.visitTypeCast(tree, v);
    }

    @Override
    public Void visitInstanceOf(InstanceOfTree tree, Void v) {
        rule(6, "no instanceof is needed", tree, false);
        return super.visitInstanceOf(tree, v);
    }

    @Override
    public Void visitLambdaExpression(LambdaExpressionTree tree, Void v) {
        rule(2, "no lambda", tree, false);
        return super.visitLambdaExpression(tree, v);
    }

    @Override
    public Void visitMemberReference(MemberReferenceTree tree, Void v) {
        rule(2, "no method reference", tree, false);
        return super.visitMemberReference(tree, v);
    }

    @Override
    public Void visitThrow(ThrowTree tree, Void v) {
        rule(6, "no throw", tree, false);
        return super.visitThrow(tree, v);
    }

    @Override
    public Void visitTry(TryTree tree, Void v) {
        rule(6, "no try", tree, false);
        return super.visitTry(tree, v);
    }

    @Override
    public Void visitSynchronized(SynchronizedTree tree, Void v) {
        rule(6, "no synchronized", tree, false);
        return super.visitSynchronized(tree, v);
    }

    @Override
    public Void visitAssert(AssertTree tree, Void v) {
        rule(6, "no assert", tree, false);
        return super.visitAssert(tree, v);
    }
}
