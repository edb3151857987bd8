import com.sun.source.tree.AssertTree;
import com.sun.source.tree.BinaryTree;
import com.sun.source.tree.BlockTree;
import com.sun.source.tree.ClassTree;
import com.sun.source.tree.CompilationUnitTree;
import com.sun.source.tree.CompoundAssignmentTree;
import com.sun.source.tree.DoWhileLoopTree;
import com.sun.source.tree.ExpressionTree;
import com.sun.source.tree.InstanceOfTree;
import com.sun.source.tree.LambdaExpressionTree;
import com.sun.source.tree.LiteralTree;
import com.sun.source.tree.MemberReferenceTree;
import com.sun.source.tree.MethodInvocationTree;
import com.sun.source.tree.MethodTree;
import com.sun.source.tree.NewArrayTree;
import com.sun.source.tree.NewClassTree;
import com.sun.source.tree.SynchronizedTree;
import com.sun.source.tree.ThrowTree;
import com.sun.source.tree.Tree;
import com.sun.source.tree.TryTree;
import com.sun.source.tree.TypeCastTree;
import com.sun.source.tree.VariableTree;
import com.sun.source.tree.WhileLoopTree;
import com.sun.source.util.JavacTask;
import com.sun.source.util.SourcePositions;
import com.sun.source.util.TreePath;
import com.sun.source.util.TreePathScanner;
import com.sun.source.util.Trees;
import java.nio.file.Path;
import java.util.ArrayList;
import java.util.HashMap;
import java.util.HashSet;
import java.util.List;
import java.util.Map;
import java.util.Set;
import javax.lang.model.element.Element;
import javax.lang.model.element.ElementKind;
import javax.lang.model.element.ExecutableElement;
import javax.lang.model.element.Modifier;
import javax.lang.model.element.TypeElement;
import javax.lang.model.type.ArrayType;
import javax.lang.model.type.DeclaredType;
import javax.lang.model.type.TypeKind;
import javax.lang.model.type.TypeMirror;
import javax.tools.JavaCompiler;
import javax.tools.StandardJavaFileManager;
import javax.tools.ToolProvider;

/**
 * The class keeps to ../shared/LANGUAGE.md. Where the class needs less than a rule leaves, this test asks for that:
 * no try, no cast among classes, no while, no recursion, and nothing new but in a constructor or behind a throw.
 */
public final class LanguageTest extends TreePathScanner<Void, Void> {
    private static final Path SOURCE = Path.of("src", "main", "java", "Handoverhouse.java");
    private static final int MOST_LINES = 60;
    private static final int MOST_PARAMETERS = 7;
    private static final int MOST_CLASSES = 12;
    private static final int MOST_FIELDS = 20;
    private static final int MOST_CALLS_DEEP = 8;

    private static final Set<String> EXCEPTIONS = Set.of("IllegalStateException", "IllegalArgumentException",
        "IndexOutOfBoundsException", "ArithmeticException", "UnsupportedOperationException",
        "NoSuchElementException", "RuntimeException");
    private static final Set<String> LIBRARY_TYPES = Set.of("java.lang.String", "java.lang.StringBuilder",
        "java.lang.Integer", "java.util.ArrayList", "java.util.List");
    private static final Set<String> LIBRARY = Set.of("java.lang.Math.max", "java.lang.Math.min", "java.lang.Math.abs",
        "java.lang.Math.floorDiv", "java.lang.Math.floorMod", "java.lang.System.arraycopy",
        "java.util.Arrays.copyOf", "java.util.Arrays.copyOfRange", "java.util.Arrays.fill");

    private final Trees trees;
    private final CompilationUnitTree unit;
    private final Set<String> publicNames = new HashSet<>();
    private final Map<Element, Set<Element>> calls = new HashMap<>();
    private int classes;

    private LanguageTest(Trees trees, CompilationUnitTree unit) {
        this.trees = trees;
        this.unit = unit;
    }

    public static void main(String[] args) throws Exception {
        JavaCompiler compiler = ToolProvider.getSystemJavaCompiler();
        StandardJavaFileManager files = compiler.getStandardFileManager(null, null, null);
        JavacTask task = (JavacTask) compiler.getTask(null, files, null, List.of("-proc:none"), null,
            files.getJavaFileObjects(SOURCE));
        CompilationUnitTree unit = task.parse().iterator().next();
        task.analyze();
        LanguageTest test = new LanguageTest(Trees.instance(task), unit);
        test.look();
        files.close();
        Check.end();
    }

    private void look() {
        Check.due("imports", unit.getImports().size(), 0);
        Check.due("rule 1: a package line", unit.getPackageName() == null, true);
        Check.due("rule 1: classes side by side", unit.getTypeDecls().size(), 1);
        for (Tree member : ((ClassTree) unit.getTypeDecls().get(0)).getMembers()) {
            if (member instanceof MethodTree m && m.getReturnType() != null
                    && m.getModifiers().getFlags().contains(Modifier.PUBLIC)) {
                publicNames.add(m.getName().toString());
            }
        }
        scan(unit, null);
        Check.due("rule 11: at most " + MOST_CLASSES + " classes", classes <= MOST_CLASSES, true);
        Check.due("the test has seen calls", calls.size() > 50, true);
        for (Element method : calls.keySet()) {
            int deep = deepFrom(method, new ArrayList<>());
            Check.due("rule 11: calls from " + method + " " + deep, deep <= MOST_CALLS_DEEP, true);
        }
    }

    private int deepFrom(Element method, List<Element> open) {
        if (open.contains(method)) {
            tell("rule 8: recursion of " + method);
            return 0;
        }
        open.add(method);
        int deepest = 0;
        for (Element called : calls.getOrDefault(method, Set.of())) {
            deepest = Math.max(deepest, deepFrom(called, open));
        }
        open.remove(method);
        return 1 + deepest;
    }

    // ---- what is looked at

    @Override
    public Void visitClass(ClassTree tree, Void none) {
        classes++;
        boolean inside = getCurrentPath().getParentPath().getLeaf() instanceof ClassTree;
        boolean outermost = getCurrentPath().getParentPath().getLeaf() instanceof CompilationUnitTree;
        due("rule 2: a local or anonymous class", inside || outermost);
        Set<Modifier> flags = tree.getModifiers().getFlags();
        due("rule 1: a class inside is private or package-visible and static", outermost
            || flags.contains(Modifier.STATIC) && !flags.contains(Modifier.PUBLIC)
                && !flags.contains(Modifier.PROTECTED));
        int fields = 0;
        for (Tree member : tree.getMembers()) {
            due("rule 5: a block of a class", !(member instanceof BlockTree));
            if (member instanceof VariableTree v && !v.getModifiers().getFlags().contains(Modifier.STATIC)) {
                fields++;
            }
        }
        due("rule 11: " + fields + " fields", fields <= MOST_FIELDS);
        return super.visitClass(tree, none);
    }

    @Override
    public Void visitMethod(MethodTree tree, Void none) {
        calls.computeIfAbsent(element(), e -> new HashSet<>());
        Set<Modifier> flags = tree.getModifiers().getFlags();
        due("rule 1: the private name of a public one",
            !flags.contains(Modifier.PRIVATE) || !publicNames.contains(tree.getName().toString()));
        due("rule 6: equals, hashCode, toString",
            !Set.of("equals", "hashCode", "toString", "finalize").contains(tree.getName().toString()));
        due("rule 11: parameters", tree.getParameters().size() <= MOST_PARAMETERS);
        SourcePositions positions = trees.getSourcePositions();
        long lines = line(positions.getEndPosition(unit, tree)) - line(positions.getStartPosition(unit, tree)) + 1;
        due("rule 11: " + lines + " lines", lines <= MOST_LINES);
        return super.visitMethod(tree, none);
    }

    @Override
    public Void visitVariable(VariableTree tree, Void none) {
        Element variable = element();
        if (variable != null) {
            due("rule 3: type of " + tree.getName(), isAllowed(variable.asType()));
            if (variable.getModifiers().contains(Modifier.STATIC)) {
                due("rule 5: static, not final", variable.getModifiers().contains(Modifier.FINAL));
                due("rule 5: no constant", isConstant(variable.asType()));
            }
        }
        return super.visitVariable(tree, none);
    }

    @Override
    public Void visitMethodInvocation(MethodInvocationTree tree, Void none) {
        Element called = trees.getElement(new TreePath(getCurrentPath(), tree.getMethodSelect()));
        if (called == null || called.getKind() == ElementKind.CONSTRUCTOR) {
            return super.visitMethodInvocation(tree, none);
        }
        if (isOwn(called)) {
            calls.computeIfAbsent(caller(), e -> new HashSet<>()).add(called);
        } else {
            String name = called.getEnclosingElement() + "." + called.getSimpleName();
            due("rule 4: " + name, LIBRARY.contains(name));
            for (ExpressionTree argument : tree.getArguments()) {
                due("rule 4: " + name + " over doubles", !isReal(typeOf(argument)));
            }
        }
        return super.visitMethodInvocation(tree, none);
    }

    @Override
    public Void visitThrow(ThrowTree tree, Void none) {
        due("rule 6: a throw in a constructor", !inConstructor());
        boolean plain = tree.getExpression() instanceof NewClassTree made
            && EXCEPTIONS.contains(made.getIdentifier().toString())
            && (made.getArguments().isEmpty()
                || made.getArguments().size() == 1 && made.getArguments().get(0).getKind() == Tree.Kind.STRING_LITERAL);
        due("rule 6: what is thrown", plain);
        return super.visitThrow(tree, none);
    }

    @Override
    public Void visitNewClass(NewClassTree tree, Void none) {
        boolean thrown = getCurrentPath().getParentPath().getLeaf() instanceof ThrowTree;
        due("something new outside a constructor", thrown || inConstructor());
        return super.visitNewClass(tree, none);
    }

    @Override
    public Void visitNewArray(NewArrayTree tree, Void none) {
        due("a new array outside a constructor", inConstructor());
        return super.visitNewArray(tree, none);
    }

    @Override
    public Void visitBinary(BinaryTree tree, Void none) {
        boolean real = isReal(typeOf(tree));
        if (tree.getKind() == Tree.Kind.DIVIDE && !real || tree.getKind() == Tree.Kind.REMAINDER) {
            boolean sure = tree.getRightOperand() instanceof LiteralTree literal
                && literal.getValue() instanceof Integer value && value != 0;
            due("rule 7: a divisor that is no written number", sure);
        }
        due("rule 10: texts joined by +", tree.getKind() != Tree.Kind.PLUS || typeOf(tree).getKind().isPrimitive());
        return super.visitBinary(tree, none);
    }

    @Override
    public Void visitCompoundAssignment(CompoundAssignmentTree tree, Void none) {
        due("rule 10: texts joined by +=", typeOf(tree).getKind().isPrimitive());
        due("rule 7: /= and %=", tree.getKind() != Tree.Kind.DIVIDE_ASSIGNMENT
            && tree.getKind() != Tree.Kind.REMAINDER_ASSIGNMENT);
        return super.visitCompoundAssignment(tree, none);
    }

    @Override
    public Void visitLiteral(LiteralTree tree, Void none) {
        if (tree.getValue() instanceof String || tree.getValue() instanceof Character) {
            due("rule 4: a sign beyond 127", tree.getValue().toString().chars().allMatch(c -> c >= 1 && c <= 127));
        }
        return super.visitLiteral(tree, none);
    }

    @Override
    public Void visitTypeCast(TypeCastTree tree, Void none) {
        due("rule 7: a cast among classes", typeOf(tree).getKind().isPrimitive());
        return super.visitTypeCast(tree, none);
    }

    @Override
    public Void visitTry(TryTree tree, Void none) {
        return refuse("a try");
    }

    @Override
    public Void visitWhileLoop(WhileLoopTree tree, Void none) {
        return refuse("a while, whose end cannot be seen as well as a for's");
    }

    @Override
    public Void visitDoWhileLoop(DoWhileLoopTree tree, Void none) {
        return refuse("a do, whose end cannot be seen as well as a for's");
    }

    @Override
    public Void visitInstanceOf(InstanceOfTree tree, Void none) {
        return refuse("instanceof");
    }

    @Override
    public Void visitLambdaExpression(LambdaExpressionTree tree, Void none) {
        return refuse("rule 2: a lambda");
    }

    @Override
    public Void visitMemberReference(MemberReferenceTree tree, Void none) {
        return refuse("rule 2: a method reference");
    }

    @Override
    public Void visitSynchronized(SynchronizedTree tree, Void none) {
        return refuse("rule 6: synchronized");
    }

    @Override
    public Void visitAssert(AssertTree tree, Void none) {
        return refuse("rule 6: assert");
    }

    // ---- helpers

    private Element element() {
        return trees.getElement(getCurrentPath());
    }

    private TypeMirror typeOf(Tree tree) {
        return trees.getTypeMirror(TreePath.getPath(unit, tree));
    }

    private long line(long position) {
        return unit.getLineMap().getLineNumber(position);
    }

    /** The method in which the current place is; for a field's initialiser its class. */
    private Element caller() {
        for (TreePath path = getCurrentPath(); path != null; path = path.getParentPath()) {
            if (path.getLeaf() instanceof MethodTree || path.getLeaf() instanceof ClassTree) {
                return trees.getElement(path);
            }
        }
        throw new AssertionError();
    }

    private boolean inConstructor() {
        Element caller = caller();
        return caller.getKind() == ElementKind.CONSTRUCTOR || caller instanceof TypeElement;
    }

    private static boolean isOwn(Element element) {
        for (Element e = element; e != null; e = e.getEnclosingElement()) {
            if (e instanceof TypeElement && e.getSimpleName().contentEquals("Handoverhouse")) {
                return true;
            }
        }
        return false;
    }

    private static boolean isReal(TypeMirror type) {
        return type != null && (type.getKind() == TypeKind.DOUBLE || type.getKind() == TypeKind.FLOAT);
    }

    private static boolean isAllowed(TypeMirror type) {
        if (type instanceof ArrayType rows && rows.getComponentType() instanceof ArrayType row) {
            return row.getComponentType().getKind().isPrimitive();
        }
        if (type instanceof ArrayType row) {
            return isAllowed(row.getComponentType());
        }
        if (type instanceof DeclaredType declared) {
            TypeElement element = (TypeElement) declared.asElement();
            return isOwn(element) || LIBRARY_TYPES.contains(element.getQualifiedName().toString());
        }
        return type.getKind().isPrimitive();
    }

    private static boolean isConstant(TypeMirror type) {
        return Set.of("int", "long", "boolean", "char", "java.lang.String", "int[]", "long[]", "char[]", "byte[]")
            .contains(type.toString());
    }

    private Void refuse(String what) {
        due(what, false);
        return null;
    }

    private void due(String what, boolean holds) {
        if (!holds) {
            long at = line(trees.getSourcePositions().getStartPosition(unit, getCurrentPath().getLeaf()));
            tell("line " + at + ": " + what);
        }
    }

    private static void tell(String what) {
        Check.tell(what);
    }
}
