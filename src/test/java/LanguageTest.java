import com.sun.source.tree.*;
import com.sun.source.util.JavacTask;
import com.sun.source.util.TreePath;
import com.sun.source.util.TreePathScanner;
import com.sun.source.util.Trees;
import java.io.IOException;
import java.nio.file.Path;
import java.util.HashMap;
import java.util.HashSet;
import java.util.List;
import java.util.Map;
import java.util.Set;
import javax.lang.model.element.Element;
import javax.lang.model.element.ElementKind;
import javax.lang.model.element.ExecutableElement;
import javax.lang.model.element.Modifier;
import javax.lang.model.element.TypeElement;
import javax.lang.model.type.ArrayType;
import javax.lang.model.type.TypeKind;
import javax.lang.model.type.TypeMirror;
import javax.tools.JavaCompiler;
import javax.tools.JavaFileObject;
import javax.tools.StandardJavaFileManager;
import javax.tools.ToolProvider;

/**
 * The rules of LANGUAGE.md that can be seen in the class as the compiler reads it; narrower than the rules where the
 * class needs less than they leave. Run from the project's folder; another file to be looked at may be given.
 */
public final class LanguageTest extends TreePathScanner<Void, Void> {
    private static final Set<Tree.Kind> FORBIDDEN = Set.of(Tree.Kind.THROW, Tree.Kind.TRY, Tree.Kind.SYNCHRONIZED,
        Tree.Kind.ASSERT, Tree.Kind.LAMBDA_EXPRESSION, Tree.Kind.MEMBER_REFERENCE, Tree.Kind.BINDING_PATTERN,
        Tree.Kind.ANNOTATION);
    private static final Set<String> LIBRARY = Set.of("java.lang.System.arraycopy", "java.util.Arrays.copyOf",
        "java.util.Arrays.copyOfRange", "java.util.Arrays.fill", "java.lang.Math.max", "java.lang.Math.min",
        "java.lang.Math.abs", "java.lang.Math.floorDiv", "java.lang.Math.floorMod", "java.lang.Long.bitCount");
    private static final Set<TypeKind> NUMBERS = Set.of(TypeKind.INT, TypeKind.LONG, TypeKind.SHORT, TypeKind.BYTE,
        TypeKind.CHAR, TypeKind.BOOLEAN);
    private static final int LONGEST_METHOD = 60, MOST_PARAMETERS = 7, MOST_CLASSES = 12, MOST_FIELDS = 20, DEEPEST = 8;

    private final Trees trees;
    private final CompilationUnitTree unit;
    private final Map<Element, Set<Element>> calls = new HashMap<>();
    private final Map<Element, Integer> depths = new HashMap<>();
    private final Set<Element> open = new HashSet<>();
    private int classes = 0;
    private int wrong = 0;

    private LanguageTest(Trees trees, CompilationUnitTree unit) {
        this.trees = trees;
        this.unit = unit;
    }

    public static void main(String[] args) throws IOException {
        Path file = Path.of(args.length > 0 ? args[0] : "src/main/java/LeafTrees.java");
        JavaCompiler compiler = ToolProvider.getSystemJavaCompiler();
        StandardJavaFileManager files = compiler.getStandardFileManager(null, null, null);
        Iterable<? extends JavaFileObject> sources = files.getJavaFileObjects(file);
        List<String> options = List.of("--release", "17", "-proc:none");
        JavacTask task = (JavacTask) compiler.getTask(null, files, null, options, null, sources);
        CompilationUnitTree unit = task.parse().iterator().next();
        task.analyze();
        LanguageTest test = new LanguageTest(Trees.instance(task), unit);
        test.scan(new TreePath(unit), null);
        test.checkWhole();
        System.out.println(test.wrong == 0 ? "the text is as due" : test.wrong + " things are not as due");
        if (test.wrong != 0) System.exit(1);
    }

    private void check(int rule, Tree where, String what, boolean holds) {
        if (holds) return;
        wrong++;
        long line = unit.getLineMap().getLineNumber(trees.getSourcePositions().getStartPosition(unit, where));
        System.out.println("rule " + rule + ", line " + line + ": " + what);
    }

    private Element element() {
        return trees.getElement(getCurrentPath());
    }

    // ---- the file, its classes and fields

    private void checkWhole() {
        check(1, unit, "a package line", unit.getPackageName() == null);
        check(11, unit, classes + " classes", classes <= MOST_CLASSES);
        for (Element method : calls.keySet()) {
            int depth = depthOf(method);
            check(11, trees.getTree(method), method + " goes " + depth + " calls deep", depth <= DEEPEST);
        }
    }

    @Override public Void visitImport(ImportTree node, Void unused) {
        check(4, node, "import of " + node.getQualifiedIdentifier(),
            Set.of("java.util.Arrays", "java.util.ArrayList", "java.util.List").contains(
                node.getQualifiedIdentifier().toString()) && !node.isStatic());
        return null;
    }

    @Override public Void visitClass(ClassTree node, Void unused) {
        classes++;
        TypeElement type = (TypeElement) element();
        Set<Modifier> modifiers = type.getModifiers();
        boolean whole = type.getEnclosingElement().getKind() == ElementKind.PACKAGE;
        boolean closed = !modifiers.contains(Modifier.PUBLIC) && !modifiers.contains(Modifier.PROTECTED);
        check(1, node, type + " is not as a class of the file", whole
            ? type.getSimpleName().contentEquals("LeafTrees") && modifiers.containsAll(Set.of(Modifier.PUBLIC, Modifier.FINAL))
            : closed);
        check(2, node, type + " is inner, local or without a name", whole
            || type.getEnclosingElement().getKind() == ElementKind.CLASS && modifiers.contains(Modifier.STATIC));
        int fields = 0;
        for (Tree member : node.getMembers()) {
            check(5, member, "a block of its own", member.getKind() != Tree.Kind.BLOCK);
            if (member instanceof VariableTree field && !field.getModifiers().getFlags().contains(Modifier.STATIC)) fields++;
        }
        check(11, node, fields + " fields", fields <= MOST_FIELDS);
        return super.visitClass(node, unused);
    }

    @Override public Void visitVariable(VariableTree node, Void unused) {
        Element variable = element();
        check(3, node, "the type of " + variable, isAllowed(variable.asType()));
        if (variable.getModifiers().contains(Modifier.STATIC)) {
            check(5, node, variable + " is no constant number", variable.getModifiers().contains(Modifier.FINAL)
                && variable.asType().getKind().isPrimitive() && NUMBERS.contains(variable.asType().getKind()));
        }
        return super.visitVariable(node, unused);
    }

    private boolean isAllowed(TypeMirror type) {
        if (!(type instanceof ArrayType array)) return NUMBERS.contains(type.getKind()) || isOwn(type);
        TypeMirror inside = array.getComponentType();
        if (inside instanceof ArrayType second) return NUMBERS.contains(second.getComponentType().getKind());
        return NUMBERS.contains(inside.getKind()) || isOwn(inside);
    }

    private static boolean isOwn(TypeMirror type) {
        return type.getKind() == TypeKind.DECLARED && type.toString().startsWith("LeafTrees");
    }

    // ---- methods and what they hold

    @Override public Void visitMethod(MethodTree node, Void unused) {
        ExecutableElement method = (ExecutableElement) element();
        calls.computeIfAbsent(method, m -> new HashSet<>());
        LineMap lines = unit.getLineMap();
        long first = lines.getLineNumber(trees.getSourcePositions().getStartPosition(unit, node));
        long last = lines.getLineNumber(trees.getSourcePositions().getEndPosition(unit, node));
        check(11, node, method + " has " + (last - first + 1) + " lines", last - first < LONGEST_METHOD);
        check(11, node, method + " takes too much", method.getParameters().size() <= MOST_PARAMETERS);
        TypeMirror answer = method.getReturnType();
        check(3, node, "the answer of " + method, answer.getKind() == TypeKind.VOID || isAllowed(answer));
        check(6, node, method + " tells of exceptions", method.getThrownTypes().isEmpty());
        return super.visitMethod(node, unused);
    }

    @Override public Void scan(Tree node, Void unused) {
        if (node != null) check(6, node, "forbidden: " + node.getKind(), !FORBIDDEN.contains(node.getKind()));
        return super.scan(node, unused);
    }

    @Override public Void visitMethodInvocation(MethodInvocationTree node, Void unused) {
        note(node, element());
        return super.visitMethodInvocation(node, unused);
    }

    @Override public Void visitNewClass(NewClassTree node, Void unused) {
        check(2, node, "a class without a name", node.getClassBody() == null);
        note(node, element());
        return super.visitNewClass(node, unused);
    }

    /** Who calls what; what is not of the file must be of the library's list. */
    private void note(Tree node, Element called) {
        String owner = called.getEnclosingElement().toString();
        boolean own = owner.startsWith("LeafTrees");
        boolean over = called.getKind() == ElementKind.CONSTRUCTOR && owner.equals("java.lang.Object");
        check(4, node, "the library's " + owner + "." + called.getSimpleName(),
            own || over || LIBRARY.contains(owner + "." + called.getSimpleName()));
        Element caller = caller();
        if (caller != null && !over) calls.computeIfAbsent(caller, m -> new HashSet<>()).add(called);
    }

    private Element caller() {
        for (TreePath path = getCurrentPath(); path != null; path = path.getParentPath()) {
            if (path.getLeaf().getKind() == Tree.Kind.METHOD) return trees.getElement(path);
        }
        return null;
    }

    /** How many calls stand open at most, a call of the library among them. */
    private int depthOf(Element method) {
        Integer known = depths.get(method);
        if (known != null) return known;
        check(8, unit, method + " comes to call itself", open.add(method));
        int below = 0;
        for (Element called : calls.getOrDefault(method, Set.of())) {
            if (!open.contains(called)) below = Math.max(below, depthOf(called));
            else check(8, unit, called + " comes to call itself", false);
        }
        open.remove(method);
        depths.put(method, below + 1);
        return below + 1;
    }

    // ---- loops, divisors, casts and texts

    @Override public Void visitForLoop(ForLoopTree node, Void unused) {
        check(9, node, "a loop without an end", node.getCondition() != null && !node.getUpdate().isEmpty());
        return super.visitForLoop(node, unused);
    }

    @Override public Void visitWhileLoop(WhileLoopTree node, Void unused) {
        check(9, node, "a loop without a counter", false);
        return super.visitWhileLoop(node, unused);
    }

    @Override public Void visitDoWhileLoop(DoWhileLoopTree node, Void unused) {
        check(9, node, "a loop without a counter", false);
        return super.visitDoWhileLoop(node, unused);
    }

    /** The class divides by constants alone, so no divisor can be 0. */
    @Override public Void visitBinary(BinaryTree node, Void unused) {
        if (node.getKind() == Tree.Kind.DIVIDE || node.getKind() == Tree.Kind.REMAINDER) {
            checkDivisor(node.getRightOperand());
        }
        return super.visitBinary(node, unused);
    }

    @Override public Void visitCompoundAssignment(CompoundAssignmentTree node, Void unused) {
        if (node.getKind() == Tree.Kind.DIVIDE_ASSIGNMENT || node.getKind() == Tree.Kind.REMAINDER_ASSIGNMENT) {
            checkDivisor(node.getExpression());
        }
        return super.visitCompoundAssignment(node, unused);
    }

    private void checkDivisor(ExpressionTree divisor) {
        String told = divisor.toString();
        check(7, divisor, "a divisor that is no constant: " + told, told.matches("[A-Z_0-9 *()]+") && !told.equals("0"));
    }

    @Override public Void visitTypeCast(TypeCastTree node, Void unused) {
        check(6, node, "a cast that is not of numbers", node.getType().getKind() == Tree.Kind.PRIMITIVE_TYPE);
        return super.visitTypeCast(node, unused);
    }

    @Override public Void visitLiteral(LiteralTree node, Void unused) {
        Tree.Kind kind = node.getKind();
        check(3, node, "a text or a broken number", kind != Tree.Kind.STRING_LITERAL
            && kind != Tree.Kind.DOUBLE_LITERAL && kind != Tree.Kind.FLOAT_LITERAL);
        return super.visitLiteral(node, unused);
    }
}
