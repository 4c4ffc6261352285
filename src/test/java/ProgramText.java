import com.sun.source.tree.AnnotationTree;
import com.sun.source.tree.AssertTree;
import com.sun.source.tree.AssignmentTree;
import com.sun.source.tree.BinaryTree;
import com.sun.source.tree.BlockTree;
import com.sun.source.tree.ClassTree;
import com.sun.source.tree.CompilationUnitTree;
import com.sun.source.tree.CompoundAssignmentTree;
import com.sun.source.tree.DoWhileLoopTree;
import com.sun.source.tree.EnhancedForLoopTree;
import com.sun.source.tree.ExpressionTree;
import com.sun.source.tree.ForLoopTree;
import com.sun.source.tree.IdentifierTree;
import com.sun.source.tree.ImportTree;
import com.sun.source.tree.LambdaExpressionTree;
import com.sun.source.tree.LiteralTree;
import com.sun.source.tree.MemberReferenceTree;
import com.sun.source.tree.MethodInvocationTree;
import com.sun.source.tree.MethodTree;
import com.sun.source.tree.NewArrayTree;
import com.sun.source.tree.NewClassTree;
import com.sun.source.tree.SynchronizedTree;
import com.sun.source.tree.ThrowTree;
import com.sun.source.tree.Tree;
import com.sun.source.tree.TryTree;
import com.sun.source.tree.UnaryTree;
import com.sun.source.tree.VariableTree;
import com.sun.source.tree.WhileLoopTree;
import com.sun.source.util.TreePath;
import com.sun.source.util.TreePathScanner;
import com.sun.source.util.TreeScanner;
import com.sun.source.util.Trees;
import java.util.ArrayList;
import java.util.HashSet;
import java.util.LinkedHashMap;
import java.util.LinkedHashSet;
import java.util.List;
import java.util.Map;
import java.util.Set;
import javax.lang.model.element.Element;
import javax.lang.model.element.ElementKind;
import javax.lang.model.element.Modifier;
import javax.lang.model.element.TypeElement;
import javax.lang.model.type.ArrayType;
import javax.lang.model.type.DeclaredType;
import javax.lang.model.type.TypeKind;
import javax.lang.model.type.TypeMirror;

/**
 * Reads the program's text and tells, rule by rule, what LANGUAGE.md does not allow. Where a rule
 * allows more than this program needs (try, recursion, while, objects made by calls), what is held
 * here is the narrower thing, as it is plain to see.
 */
final class ProgramText extends TreePathScanner<Void, Void> {
    private static final String ONE_CLASS = "1: one class on top, those inside private or"
            + " package-visible and static, no private method with a public one's name";
    private static final String NO_LAMBDA = "2: no lambda, method reference or local class";
    private static final String TYPES = "3: the types";
    private static final String LIBRARY = "4: the library";
    private static final String STATICS = "5: static fields are final constants, no static block";
    private static final String EXCEPTIONS = "6: throw new E() or E(a written text), not in a"
            + " constructor; no try, synchronized, assert, annotation; no == of texts";
    private static final String LOOPS = "8, 9: no recursion, each loop a for with a counter";
    private static final String TEXTS = "10: no texts joined by +";
    private static final String SIZES = "11: at most seven parameters, sixty lines, eight calls"
            + " deep, twelve classes, twenty fields";
    private static final String MAKING = "12: a call makes nothing but the exception it throws";

    private static final Set<String> IMPORTS = Set.of("java.util.Arrays", "java.util.ArrayList",
            "java.util.List", "java.util.Iterator", "java.util.NoSuchElementException");
    private static final Set<String> CALLS = Set.of("java.util.Arrays.fill",
            "java.util.Arrays.copyOf", "java.util.Arrays.copyOfRange", "java.lang.System.arraycopy",
            "java.lang.Math.min", "java.lang.Math.max", "java.lang.Math.abs",
            "java.lang.Math.floorDiv", "java.lang.Math.floorMod", "java.lang.Object.<init>");
    private static final Set<String> THROWN = Set.of("IllegalStateException",
            "IllegalArgumentException", "IndexOutOfBoundsException", "ArithmeticException",
            "UnsupportedOperationException", "NoSuchElementException", "RuntimeException");

    private final Trees trees;
    private final Map<String, List<String>> faults = new LinkedHashMap<>();
    private final Map<Element, Set<Element>> callsOf = new LinkedHashMap<>();
    private final Set<String> publicNames = new HashSet<>();
    private final Set<String> privateNames = new HashSet<>();
    private int classes = 0;
    private int methods = 0;
    private CompilationUnitTree unit = null;

    ProgramText(Trees trees) {
        this.trees = trees;
        for (String rule : List.of(ONE_CLASS, NO_LAMBDA, TYPES, LIBRARY, STATICS, EXCEPTIONS, LOOPS,
                TEXTS, SIZES, MAKING)) {
            faults.put(rule, new ArrayList<>());
        }
    }

    Map<String, List<String>> faults() {
        return faults;
    }

    int classCount() {
        return classes;
    }

    int methodCount() {
        return methods;
    }

    void readUnit(CompilationUnitTree read) {
        unit = read;
        if (read.getPackageName() != null || read.getTypeDecls().size() != 1) {
            fault(ONE_CLASS, read, "a package or more than one class on top");
        }
        scan(read, null);
        for (String name : privateNames) {
            if (publicNames.contains(name)) {
                fault(ONE_CLASS, read, "private " + name);
            }
        }
        if (classes > 12) {
            fault(SIZES, read, classes + " classes");
        }
        for (Element method : callsOf.keySet()) {
            followCalls(method, new LinkedHashSet<>());
        }
    }

    private void followCalls(Element method, Set<Element> open) {
        if (!open.add(method)) {
            faults.get(LOOPS).add(method + " calls itself");
            return;
        }
        if (open.size() > 8) {
            faults.get(SIZES).add(open + " is too deep");
        }
        for (Element called : callsOf.getOrDefault(method, Set.of())) {
            followCalls(called, open);
        }
        open.remove(method);
    }

    private void fault(String rule, Tree at, String what) {
        faults.get(rule).add("line " + lineOf(start(at)) + ": " + what);
    }

    private long start(Tree tree) {
        return trees.getSourcePositions().getStartPosition(unit, tree);
    }

    private long lineOf(long position) {
        return position < 0 ? 0 : unit.getLineMap().getLineNumber(position);
    }

    private Element element() {
        return trees.getElement(getCurrentPath());
    }

    private boolean isOwn(Element element) {
        for (Element at = element; at != null; at = at.getEnclosingElement()) {
            if (at instanceof TypeElement type && type.getQualifiedName().contentEquals("HeatShares")) {
                return true;
            }
        }
        return false;
    }

    @Override
    public Void visitImport(ImportTree node, Void nothing) {
        if (node.isStatic() || !IMPORTS.contains(node.getQualifiedIdentifier().toString())) {
            fault(LIBRARY, node, node.toString().trim());
        }
        return super.visitImport(node, nothing);
    }

    @Override
    public Void visitClass(ClassTree node, Void nothing) {
        classes++;
        Element made = element();
        Element around = made.getEnclosingElement();
        if (!around.getKind().isClass() && around.getKind() != ElementKind.PACKAGE) {
            fault(NO_LAMBDA, node, "a class in a method");
        }
        if (around.getKind().isClass() && (!made.getModifiers().contains(Modifier.STATIC)
                || made.getModifiers().contains(Modifier.PUBLIC)
                || made.getModifiers().contains(Modifier.PROTECTED))) {
            fault(ONE_CLASS, node, "class " + made.getSimpleName());
        }
        int fields = 0;
        for (Tree member : node.getMembers()) {
            if (member instanceof VariableTree field
                    && !field.getModifiers().getFlags().contains(Modifier.STATIC)) {
                fields++;
            }
            if (member instanceof BlockTree block && block.isStatic()) {
                fault(STATICS, member, "a static block");
            }
        }
        if (fields > 20) {
            fault(SIZES, node, made.getSimpleName() + " has " + fields + " fields");
        }
        return super.visitClass(node, nothing);
    }

    @Override
    public Void visitMethod(MethodTree node, Void nothing) {
        Element made = element();
        if (made.getKind() == ElementKind.METHOD) {
            methods++;
            boolean isPublic = made.getModifiers().contains(Modifier.PUBLIC);
            (isPublic ? publicNames : privateNames).add(made.getSimpleName().toString());
        }
        callsOf.putIfAbsent(made, new LinkedHashSet<>());
        if (node.getParameters().size() > 7) {
            fault(SIZES, node, node.getName() + " has more than seven parameters");
        }
        long last = trees.getSourcePositions().getEndPosition(unit, node);
        if (lineOf(last) - lineOf(start(node)) + 1 > 60) {
            fault(SIZES, node, node.getName() + " has more than sixty lines");
        }
        if (node.getReturnType() != null) {
            needType(node, trees.getTypeMirror(new TreePath(getCurrentPath(), node.getReturnType())));
        }
        return super.visitMethod(node, nothing);
    }

    @Override
    public Void visitVariable(VariableTree node, Void nothing) {
        Element made = element();
        needType(node, made.asType());
        if (made.getModifiers().contains(Modifier.STATIC)
                && (!made.getModifiers().contains(Modifier.FINAL) || !isConstantType(made))) {
            fault(STATICS, node, made.getSimpleName().toString());
        }
        return super.visitVariable(node, nothing);
    }

    private static boolean isConstantType(Element made) {
        return Set.of("int", "long", "boolean", "char", "java.lang.String", "int[]", "long[]",
                "char[]", "byte[]").contains(made.asType().toString());
    }

    private void needType(Tree at, TypeMirror type) {
        if (!isAllowed(type, 0)) {
            fault(TYPES, at, type.toString());
        }
    }

    private boolean isAllowed(TypeMirror type, int dimensions) {
        if (type.getKind() == TypeKind.VOID) {
            return true;
        }
        if (type.getKind().isPrimitive()) {
            return dimensions <= 2;
        }
        if (type instanceof ArrayType array) {
            return isAllowed(array.getComponentType(), dimensions + 1);
        }
        if (!(type instanceof DeclaredType declared)) {
            return false;
        }
        boolean isText = Set.of("java.lang.String", "java.lang.StringBuilder")
                .contains(type.toString());
        return isText ? dimensions == 0 : dimensions <= 1 && isOwn(declared.asElement());
    }

    @Override
    public Void visitMethodInvocation(MethodInvocationTree node, Void nothing) {
        Element called = element();
        Element caller = methodAround();
        if (isOwn(called)) {
            callsOf.computeIfAbsent(caller, made -> new LinkedHashSet<>()).add(called);
        } else if (!CALLS.contains(called.getEnclosingElement() + "." + called.getSimpleName())) {
            fault(LIBRARY, node, node.toString());
        }
        return super.visitMethodInvocation(node, nothing);
    }

    private Element methodAround() {
        for (TreePath at = getCurrentPath(); at != null; at = at.getParentPath()) {
            if (at.getLeaf() instanceof MethodTree || at.getLeaf() instanceof ClassTree) {
                return trees.getElement(at);
            }
        }
        return null;
    }

    private boolean isInCall() {
        Element around = methodAround();
        return around != null && around.getKind() == ElementKind.METHOD;
    }

    @Override
    public Void visitNewClass(NewClassTree node, Void nothing) {
        if (getCurrentPath().getParentPath().getLeaf() instanceof ThrowTree) {
            return super.visitNewClass(node, nothing);
        }
        if (!isOwn(element())) {
            fault(LIBRARY, node, node.toString());
        }
        if (isInCall()) {
            fault(MAKING, node, node.toString());
        }
        return super.visitNewClass(node, nothing);
    }

    @Override
    public Void visitNewArray(NewArrayTree node, Void nothing) {
        if (isInCall()) {
            fault(MAKING, node, node.toString());
        }
        return super.visitNewArray(node, nothing);
    }

    @Override
    public Void visitThrow(ThrowTree node, Void nothing) {
        boolean isFit = node.getExpression() instanceof NewClassTree made
                && THROWN.contains(made.getIdentifier().toString())
                && made.getClassBody() == null && hasWrittenText(made.getArguments());
        if (!isFit || !isInCall()) {
            fault(EXCEPTIONS, node, node.toString());
        }
        return super.visitThrow(node, nothing);
    }

    private static boolean hasWrittenText(List<? extends ExpressionTree> arguments) {
        return arguments.isEmpty() || arguments.size() == 1
                && arguments.get(0).getKind() == Tree.Kind.STRING_LITERAL;
    }

    @Override
    public Void visitTry(TryTree node, Void nothing) {
        fault(EXCEPTIONS, node, "try");
        return super.visitTry(node, nothing);
    }

    @Override
    public Void visitSynchronized(SynchronizedTree node, Void nothing) {
        fault(EXCEPTIONS, node, "synchronized");
        return super.visitSynchronized(node, nothing);
    }

    @Override
    public Void visitAssert(AssertTree node, Void nothing) {
        fault(EXCEPTIONS, node, "assert");
        return super.visitAssert(node, nothing);
    }

    @Override
    public Void visitAnnotation(AnnotationTree node, Void nothing) {
        fault(EXCEPTIONS, node, node.toString());
        return super.visitAnnotation(node, nothing);
    }

    @Override
    public Void visitLambdaExpression(LambdaExpressionTree node, Void nothing) {
        fault(NO_LAMBDA, node, node.toString());
        return super.visitLambdaExpression(node, nothing);
    }

    @Override
    public Void visitMemberReference(MemberReferenceTree node, Void nothing) {
        fault(NO_LAMBDA, node, node.toString());
        return super.visitMemberReference(node, nothing);
    }

    @Override
    public Void visitWhileLoop(WhileLoopTree node, Void nothing) {
        fault(LOOPS, node, "while");
        return super.visitWhileLoop(node, nothing);
    }

    @Override
    public Void visitDoWhileLoop(DoWhileLoopTree node, Void nothing) {
        fault(LOOPS, node, "do");
        return super.visitDoWhileLoop(node, nothing);
    }

    @Override
    public Void visitEnhancedForLoop(EnhancedForLoopTree node, Void nothing) {
        fault(LOOPS, node, "for over an array");
        return super.visitEnhancedForLoop(node, nothing);
    }

    @Override
    public Void visitForLoop(ForLoopTree node, Void nothing) {
        if (!hasCounter(node)) {
            fault(LOOPS, node, "for without a counter");
        }
        return super.visitForLoop(node, nothing);
    }

    /** int i = a; i < b (&& c); i++ or the like downwards, and i is not set inside. */
    private static boolean hasCounter(ForLoopTree loop) {
        if (loop.getInitializer().size() != 1 || loop.getUpdate().size() != 1
                || !(loop.getInitializer().get(0) instanceof VariableTree counter)) {
            return false;
        }
        String name = counter.getName().toString();
        ExpressionTree condition = loop.getCondition();
        while (condition instanceof BinaryTree both && both.getKind() == Tree.Kind.CONDITIONAL_AND) {
            condition = both.getLeftOperand();
        }
        String update = loop.getUpdate().get(0).toString();
        boolean isUp = update.equals(name + "++;") && isBound(condition, name,
                Set.of(Tree.Kind.LESS_THAN, Tree.Kind.LESS_THAN_EQUAL));
        boolean isDown = update.equals(name + "--;") && isBound(condition, name,
                Set.of(Tree.Kind.GREATER_THAN, Tree.Kind.GREATER_THAN_EQUAL));
        return (isUp || isDown) && !new CounterSearch(name).isSetIn(loop.getStatement());
    }

    private static boolean isBound(ExpressionTree condition, String name, Set<Tree.Kind> kinds) {
        return condition instanceof BinaryTree bound && kinds.contains(bound.getKind())
                && bound.getLeftOperand() instanceof IdentifierTree left
                && left.getName().contentEquals(name);
    }

    @Override
    public Void visitBinary(BinaryTree node, Void nothing) {
        boolean isEquality = node.getKind() == Tree.Kind.EQUAL_TO
                || node.getKind() == Tree.Kind.NOT_EQUAL_TO;
        if (isEquality && isText(node.getLeftOperand()) && isText(node.getRightOperand())) {
            fault(EXCEPTIONS, node, node.toString());
        }
        if (node.getKind() == Tree.Kind.PLUS
                && (isText(node.getLeftOperand()) || isText(node.getRightOperand()))) {
            fault(TEXTS, node, node.toString());
        }
        return super.visitBinary(node, nothing);
    }

    @Override
    public Void visitCompoundAssignment(CompoundAssignmentTree node, Void nothing) {
        if (isText(node.getVariable())) {
            fault(TEXTS, node, node.toString());
        }
        return super.visitCompoundAssignment(node, nothing);
    }

    private boolean isText(ExpressionTree expression) {
        TypeMirror type = trees.getTypeMirror(new TreePath(getCurrentPath(), expression));
        return type != null && type.toString().equals("java.lang.String");
    }

    @Override
    public Void visitLiteral(LiteralTree node, Void nothing) {
        if (node.getValue() instanceof String text && text.chars().anyMatch(c -> c > 255)) {
            fault(TYPES, node, node.toString());
        }
        return super.visitLiteral(node, nothing);
    }

    /** Whether a loop's body sets its counter. */
    private static final class CounterSearch extends TreeScanner<Boolean, Void> {
        private final String name;

        CounterSearch(String name) {
            this.name = name;
        }

        boolean isSetIn(Tree body) {
            return Boolean.TRUE.equals(scan(body, null));
        }

        @Override
        public Boolean reduce(Boolean one, Boolean other) {
            return Boolean.TRUE.equals(one) || Boolean.TRUE.equals(other);
        }

        private boolean isCounter(ExpressionTree set) {
            return set.toString().equals(name);
        }

        @Override
        public Boolean visitAssignment(AssignmentTree node, Void nothing) {
            return reduce(isCounter(node.getVariable()), super.visitAssignment(node, nothing));
        }

        @Override
        public Boolean visitCompoundAssignment(CompoundAssignmentTree node, Void nothing) {
            return reduce(isCounter(node.getVariable()),
                    super.visitCompoundAssignment(node, nothing));
        }

        @Override
        public Boolean visitUnary(UnaryTree node, Void nothing) {
            boolean sets = Set.of(Tree.Kind.POSTFIX_INCREMENT, Tree.Kind.POSTFIX_DECREMENT,
                    Tree.Kind.PREFIX_INCREMENT, Tree.Kind.PREFIX_DECREMENT).contains(node.getKind());
            return reduce(sets && isCounter(node.getExpression()), super.visitUnary(node, nothing));
        }
    }
}
