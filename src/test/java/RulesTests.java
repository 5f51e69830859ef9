import com.sun.source.tree.ArrayAccessTree;
import com.sun.source.tree.AssignmentTree;
import com.sun.source.tree.BinaryTree;
import com.sun.source.tree.ClassTree;
import com.sun.source.tree.CompilationUnitTree;
import com.sun.source.tree.CompoundAssignmentTree;
import com.sun.source.tree.ExpressionTree;
import com.sun.source.tree.MethodInvocationTree;
import com.sun.source.tree.MethodTree;
import com.sun.source.tree.NewArrayTree;
import com.sun.source.tree.NewClassTree;
import com.sun.source.tree.ThrowTree;
import com.sun.source.tree.Tree;
import com.sun.source.tree.TypeCastTree;
import com.sun.source.tree.UnaryTree;
import com.sun.source.tree.VariableTree;
import com.sun.source.util.JavacTask;
import com.sun.source.util.TreePath;
import com.sun.source.util.TreePathScanner;
import com.sun.source.util.Trees;
import java.io.File;
import java.util.EnumSet;
import java.util.HashMap;
import java.util.HashSet;
import java.util.List;
import java.util.Map;
import java.util.Set;
import java.util.TreeSet;
import javax.lang.model.element.Element;
import javax.lang.model.element.ElementKind;
import javax.lang.model.element.ExecutableElement;
import javax.lang.model.element.Modifier;
import javax.lang.model.element.TypeElement;
import javax.lang.model.type.ArrayType;
import javax.lang.model.type.TypeKind;
import javax.lang.model.type.TypeMirror;
import javax.tools.JavaCompiler;
import javax.tools.StandardJavaFileManager;
import javax.tools.ToolProvider;

/** The rules of LANGUAGE.md that can be read off the source of the class. */
public final class RulesTests extends TreePathScanner<Void, Void> {
    private static final String SOURCE = "src/main/java/StruckCounts.java";
    private static final Set<Tree.Kind> NOT_ALLOWED = EnumSet.of(Tree.Kind.LAMBDA_EXPRESSION, Tree.Kind.MEMBER_REFERENCE,
            Tree.Kind.TRY, Tree.Kind.ASSERT, Tree.Kind.SYNCHRONIZED, Tree.Kind.IMPORT, Tree.Kind.PACKAGE);
    private static final Set<String> TEXT_CALLS = Set.of("java.lang.String.length", "java.lang.String.charAt",
            "java.lang.String.isEmpty", "java.lang.String.equals", "java.lang.String.indexOf", "java.lang.String.substring",
            "java.lang.String.toCharArray", "java.lang.System.arraycopy");
    private static final Set<String> STATIC_CALLS = Set.of("java.lang.Math", "java.lang.Integer", "java.lang.Long");
    private static final Set<String> THROWN = Set.of("java.lang.IllegalStateException", "java.lang.IllegalArgumentException",
            "java.lang.IndexOutOfBoundsException");
    private static final Set<String> ENUM_FIELDS = Set.of("int", "long", "boolean", "java.lang.String");
    private static final int MOST_PARAMETERS = 7;
    private static final int MOST_LINES = 60;
    private static final int MOST_CLASSES = 12;
    private static final int MOST_FIELDS = 20;
    private static final int MOST_OPEN_CALLS = 8;

    private final Check check = new Check("RulesTests");
    private final CompilationUnitTree unit;
    private final Trees trees;
    private final Map<Element, Set<Element>> callsFrom = new HashMap<>();
    private int classes = 0;

    private RulesTests(CompilationUnitTree unit, Trees trees) {
        this.unit = unit;
        this.trees = trees;
    }

    public static void main(String[] args) throws Exception {
        JavaCompiler compiler = ToolProvider.getSystemJavaCompiler();
        try (StandardJavaFileManager files = compiler.getStandardFileManager(null, null, null)) {
            JavacTask task = (JavacTask) compiler.getTask(null, files, null, List.of("-proc:none"), null,
                    files.getJavaFileObjects(new File(SOURCE)));
            CompilationUnitTree unit = task.parse().iterator().next();
            task.analyze();
            RulesTests tests = new RulesTests(unit, Trees.instance(task));
            tests.scan(new TreePath(unit), null);
            tests.classesAndCalls();
            tests.check.end();
        }
    }

    private void rule(int number, String what, boolean kept) {
        check.begin("rule " + number);
        check.compare(what, "kept", kept ? "kept" : "broken");
    }

    private String told(Tree tree) {
        return "line " + lineOf(tree, false) + ", " + tree.toString().lines().findFirst().orElse("");
    }

    private long lineOf(Tree tree, boolean last) {
        long at = last ? trees.getSourcePositions().getEndPosition(unit, tree)
                : trees.getSourcePositions().getStartPosition(unit, tree);
        return unit.getLineMap().getLineNumber(at);
    }

    private Element elementOf(Tree tree) {
        return trees.getElement(new TreePath(getCurrentPath(), tree));
    }

    private TypeMirror typeOf(Tree tree) {
        return trees.getTypeMirror(new TreePath(getCurrentPath(), tree));
    }

    private Tree parent() {
        return getCurrentPath().getParentPath().getLeaf();
    }

    private MethodTree methodAround() {
        for (TreePath path = getCurrentPath(); path != null; path = path.getParentPath()) {
            if (path.getLeaf() instanceof MethodTree) {
                return (MethodTree) path.getLeaf();
            }
        }
        return null;
    }

    private static boolean isOurs(Element type) {
        return type.toString().startsWith("StruckCounts");
    }

    @Override
    public Void scan(Tree tree, Void nothing) {
        if (tree != null) {
            rule(6, told(tree), !NOT_ALLOWED.contains(tree.getKind()));
        }
        return super.scan(tree, nothing);
    }

    // ---- classes, fields, methods

    @Override
    public Void visitClass(ClassTree tree, Void nothing) {
        classes++;
        boolean inside = !(parent() instanceof CompilationUnitTree);
        Set<Modifier> flags = trees.getElement(getCurrentPath()).getModifiers();
        rule(2, told(tree), !inside || flags.contains(Modifier.STATIC) && !flags.contains(Modifier.PUBLIC));
        long fields = tree.getMembers().stream().filter(member -> member instanceof VariableTree)
                .filter(member -> !((VariableTree) member).getModifiers().getFlags().contains(Modifier.STATIC)).count();
        rule(11, told(tree) + " has " + fields + " fields", fields <= MOST_FIELDS);
        rule(5, told(tree) + " has a static block",
                tree.getMembers().stream().noneMatch(member -> member.getKind() == Tree.Kind.BLOCK));
        return super.visitClass(tree, nothing);
    }

    @Override
    public Void visitVariable(VariableTree tree, Void nothing) {
        Element variable = trees.getElement(getCurrentPath());
        rule(3, told(tree), isAllowed(variable.asType()));
        Element owner = variable.getEnclosingElement();
        if (variable.getKind() == ElementKind.FIELD && owner.getKind() == ElementKind.ENUM) {
            rule(2, told(tree), ENUM_FIELDS.contains(variable.asType().toString()));
        }
        if (variable.getKind() == ElementKind.FIELD && variable.getModifiers().contains(Modifier.STATIC)) {
            rule(5, told(tree), variable.getModifiers().contains(Modifier.FINAL) && isWrittenOut(tree, variable.asType()));
        }
        return super.visitVariable(tree, nothing);
    }

    /** Arrays have one dimension, those of numbers two at most. */
    private static boolean isAllowed(TypeMirror type) {
        if (type.getKind() == TypeKind.ARRAY) {
            TypeMirror part = ((ArrayType) type).getComponentType();
            if (part.getKind() == TypeKind.ARRAY) {
                return ((ArrayType) part).getComponentType().getKind().isPrimitive();
            }
            return isAllowed(part);
        }
        return type.getKind().isPrimitive() || type.toString().equals("java.lang.String")
                || type.toString().startsWith("StruckCounts.");
    }

    private static boolean isWrittenOut(VariableTree tree, TypeMirror type) {
        Tree start = tree.getInitializer();
        if (type.getKind() != TypeKind.ARRAY) {
            return type.getKind().isPrimitive() || type.toString().equals("java.lang.String");
        }
        return start instanceof NewArrayTree && ((NewArrayTree) start).getInitializers() != null
                || start.toString().equals("Word.values()");
    }

    @Override
    public Void visitMethod(MethodTree tree, Void nothing) {
        Element method = trees.getElement(getCurrentPath());
        callsFrom.putIfAbsent(method, new HashSet<>());
        rule(11, told(tree), tree.getParameters().size() <= MOST_PARAMETERS);
        if (lineOf(tree, true) > 0) {
            rule(11, told(tree), lineOf(tree, true) - lineOf(tree, false) < MOST_LINES);
        }
        return super.visitMethod(tree, nothing);
    }

    // ---- calls and objects

    @Override
    public Void visitMethodInvocation(MethodInvocationTree tree, Void nothing) {
        ExecutableElement called = (ExecutableElement) elementOf(tree);
        TypeElement type = (TypeElement) called.getEnclosingElement();
        String name = type.getQualifiedName() + "." + called.getSimpleName();
        boolean library = TEXT_CALLS.contains(name)
                || STATIC_CALLS.contains(type.getQualifiedName().toString()) && !name.endsWith("Exact");
        boolean constructor = called.getKind() == ElementKind.CONSTRUCTOR;
        rule(4, told(tree), isOurs(type) || library || constructor);
        noteCall(called);
        return super.visitMethodInvocation(tree, nothing);
    }

    private void noteCall(Element called) {
        MethodTree method = methodAround();
        if (method != null) {
            Element from = trees.getElement(trees.getPath(unit, method));
            callsFrom.computeIfAbsent(from, key -> new HashSet<>()).add(called);
        }
    }

    private boolean isInConstructor() {
        MethodTree method = methodAround();
        return method != null && method.getReturnType() == null;
    }

    @Override
    public Void visitNewClass(NewClassTree tree, Void nothing) {
        boolean thrown = parent() instanceof ThrowTree;
        Element type = elementOf(tree).getEnclosingElement();
        if (thrown) {
            rule(6, told(tree), THROWN.contains(type.toString()));
        } else {
            rule(12, told(tree), isOurs(type) && (methodAround() == null || isInConstructor()));
        }
        rule(2, told(tree), tree.getClassBody() == null);
        return super.visitNewClass(tree, nothing);
    }

    @Override
    public Void visitNewArray(NewArrayTree tree, Void nothing) {
        rule(12, told(tree), methodAround() == null || isInConstructor());
        return super.visitNewArray(tree, nothing);
    }

    @Override
    public Void visitThrow(ThrowTree tree, Void nothing) {
        rule(6, told(tree), tree.getExpression() instanceof NewClassTree && !isInConstructor());
        return super.visitThrow(tree, nothing);
    }

    // ---- what is done with values

    @Override
    public Void visitTypeCast(TypeCastTree tree, Void nothing) {
        rule(6, told(tree), typeOf(tree.getType()).getKind().isPrimitive());
        return super.visitTypeCast(tree, nothing);
    }

    @Override
    public Void visitBinary(BinaryTree tree, Void nothing) {
        boolean texts = isText(tree.getLeftOperand()) || isText(tree.getRightOperand());
        rule(10, told(tree), !texts);
        return super.visitBinary(tree, nothing);
    }

    private boolean isText(Tree operand) {
        return typeOf(operand).toString().equals("java.lang.String");
    }

    @Override
    public Void visitAssignment(AssignmentTree tree, Void nothing) {
        rule(5, told(tree), !isStaticRow(tree.getVariable()));
        return super.visitAssignment(tree, nothing);
    }

    @Override
    public Void visitCompoundAssignment(CompoundAssignmentTree tree, Void nothing) {
        rule(5, told(tree), !isStaticRow(tree.getVariable()));
        rule(10, told(tree), !isText(tree.getVariable()));
        return super.visitCompoundAssignment(tree, nothing);
    }

    @Override
    public Void visitUnary(UnaryTree tree, Void nothing) {
        Set<Tree.Kind> steps = EnumSet.of(Tree.Kind.POSTFIX_INCREMENT, Tree.Kind.POSTFIX_DECREMENT,
                Tree.Kind.PREFIX_INCREMENT, Tree.Kind.PREFIX_DECREMENT);
        rule(5, told(tree), !steps.contains(tree.getKind()) || !isStaticRow(tree.getExpression()));
        return super.visitUnary(tree, nothing);
    }

    private boolean isStaticRow(ExpressionTree target) {
        if (!(target instanceof ArrayAccessTree)) {
            return false;
        }
        Element row = elementOf(((ArrayAccessTree) target).getExpression());
        return row == null || row.getModifiers().contains(Modifier.STATIC);
    }

    // ---- the whole of it

    private void classesAndCalls() {
        rule(11, classes + " classes", classes <= MOST_CLASSES);
        for (Element method : callsFrom.keySet()) {
            int open = openCalls(method, new TreeSet<>());
            rule(11, method.getEnclosingElement() + "." + method + ": " + open + " calls stand open at once",
                    open <= MOST_OPEN_CALLS);
        }
    }

    /** A method that comes back to itself stands open without end. */
    private int openCalls(Element method, Set<String> above) {
        String name = method.getEnclosingElement() + "." + method;
        if (above.contains(name)) {
            return 1000;
        }
        Set<String> around = new TreeSet<>(above);
        around.add(name);
        int most = 0;
        for (Element called : callsFrom.getOrDefault(method, Set.of())) {
            most = Math.max(most, openCalls(called, around));
        }
        return Math.min(1000, most + 1);
    }
}
