import com.sun.source.tree.ArrayTypeTree;
import com.sun.source.tree.AssertTree;
import com.sun.source.tree.AssignmentTree;
import com.sun.source.tree.BinaryTree;
import com.sun.source.tree.BlockTree;
import com.sun.source.tree.ClassTree;
import com.sun.source.tree.CompilationUnitTree;
import com.sun.source.tree.CompoundAssignmentTree;
import com.sun.source.tree.DoWhileLoopTree;
import com.sun.source.tree.ExpressionTree;
import com.sun.source.tree.ForLoopTree;
import com.sun.source.tree.IdentifierTree;
import com.sun.source.tree.LambdaExpressionTree;
import com.sun.source.tree.MemberReferenceTree;
import com.sun.source.tree.MethodInvocationTree;
import com.sun.source.tree.MethodTree;
import com.sun.source.tree.NewArrayTree;
import com.sun.source.tree.NewClassTree;
import com.sun.source.tree.ParenthesizedTree;
import com.sun.source.tree.StatementTree;
import com.sun.source.tree.SynchronizedTree;
import com.sun.source.tree.ThrowTree;
import com.sun.source.tree.Tree;
import com.sun.source.tree.TryTree;
import com.sun.source.tree.UnaryTree;
import com.sun.source.tree.VariableTree;
import com.sun.source.tree.WhileLoopTree;
import com.sun.source.util.JavacTask;
import com.sun.source.util.TreePath;
import com.sun.source.util.TreePathScanner;
import com.sun.source.util.Trees;
import java.io.IOException;
import java.net.URI;
import java.util.ArrayList;
import java.util.LinkedHashMap;
import java.util.LinkedHashSet;
import java.util.List;
import java.util.Map;
import java.util.Set;
import javax.lang.model.element.Element;
import javax.lang.model.element.ElementKind;
import javax.lang.model.element.ExecutableElement;
import javax.lang.model.element.Modifier;
import javax.lang.model.type.ArrayType;
import javax.lang.model.type.TypeKind;
import javax.lang.model.type.TypeMirror;
import javax.tools.Diagnostic;
import javax.tools.DiagnosticCollector;
import javax.tools.JavaFileObject;
import javax.tools.SimpleJavaFileObject;
import javax.tools.ToolProvider;

/** Holds a text of the class against the rules of LANGUAGE.md that can be seen in a text; the compiler reads it. */
final class Rules extends TreePathScanner<Void, Void> {
    static final int MOST_DEEP = 8;
    private static final int MOST_CLASSES = 12;
    private static final int MOST_FIELDS = 20;
    private static final int MOST_PARAMETERS = 7;
    private static final int MOST_LINES = 60;

    private static final Map<String, Set<String>> LIBRARY = Map.of(
            "java.lang.String", Set.of("length", "charAt", "isEmpty", "equals", "indexOf", "substring", "toCharArray"),
            "java.lang.StringBuilder", Set.of("append", "charAt", "setCharAt", "setLength", "deleteCharAt", "reverse",
                    "length", "toString"),
            "java.util.ArrayList", Set.of("add", "get", "set", "remove", "size", "isEmpty", "clear"),
            "java.util.List", Set.of("add", "get", "set", "remove", "size", "isEmpty", "clear", "of"),
            "java.lang.Integer", Set.of("compare", "max", "min", "bitCount", "signum"),
            "java.lang.Long", Set.of("compare", "max", "min", "bitCount", "signum"),
            "java.lang.Math", Set.of("max", "min", "abs", "floorDiv", "floorMod"),
            "java.lang.System", Set.of("arraycopy"),
            "java.util.Arrays", Set.of("copyOf", "copyOfRange", "fill"));
    private static final Set<String> LIBRARY_TYPES = Set.of("java.lang.String", "java.lang.StringBuilder");

    private final List<String> faults = new ArrayList<>();
    private final Map<Element, Set<Element>> calls = new LinkedHashMap<>();
    private final Trees trees;
    private final CompilationUnitTree unit;
    private int classes;

    private Rules(Trees trees, CompilationUnitTree unit) {
        this.trees = trees;
        this.unit = unit;
    }

    /** What in a text is against the rules, each with its rule's number. */
    static List<String> faultsOf(String text) throws IOException {
        DiagnosticCollector<JavaFileObject> told = new DiagnosticCollector<>();
        JavaFileObject file = new SimpleJavaFileObject(URI.create("string:///EntailedLand.java"), JavaFileObject.Kind.SOURCE) {
            @Override
            public CharSequence getCharContent(boolean ignore) {
                return text;
            }
        };
        JavacTask task = (JavacTask) ToolProvider.getSystemJavaCompiler().getTask(
                null, null, told, List.of("-proc:none"), null, List.of(file));
        CompilationUnitTree unit = task.parse().iterator().next();
        task.analyze();
        Rules rules = new Rules(Trees.instance(task), unit);
        for (Diagnostic<?> d : told.getDiagnostics()) {
            if (d.getKind() == Diagnostic.Kind.ERROR) {
                rules.faults.add("it is not compiled: " + d);
            }
        }
        if (rules.faults.isEmpty()) {
            rules.look(text);
        }
        return rules.faults;
    }

    private void look(String text) {
        if (unit.getPackageName() != null) {
            faults.add("a package line");
        }
        if (!text.chars().allMatch(sign -> sign > 0 && sign < 128)) {
            faults.add("rule 4: a sign beyond 127");
        }
        scan(unit, null);
        if (classes > MOST_CLASSES) {
            faults.add("rule 11: " + classes + " classes");
        }
        depths();
    }

    private void fault(int rule, String what, Tree at) {
        long start = trees.getSourcePositions().getStartPosition(unit, at);
        faults.add("rule " + rule + ", line " + unit.getLineMap().getLineNumber(start) + ": " + what);
    }

    private Element elementOf(Tree tree) {
        return trees.getElement(new TreePath(getCurrentPath(), tree));
    }

    private static boolean isOwn(Element e) {
        Element top = e;
        while (top.getEnclosingElement() != null && top.getEnclosingElement().getKind() != ElementKind.PACKAGE) {
            top = top.getEnclosingElement();
        }
        return top.getSimpleName().contentEquals("EntailedLand");
    }

    private Tree aheadOf() {
        return getCurrentPath().getParentPath().getLeaf();
    }

    // ---- classes and fields

    @Override
    public Void visitClass(ClassTree tree, Void v) {
        classes++;
        Set<Modifier> told = tree.getModifiers().getFlags();
        boolean top = aheadOf() instanceof CompilationUnitTree;
        boolean inside = aheadOf() instanceof ClassTree;
        if (top && !told.containsAll(Set.of(Modifier.PUBLIC, Modifier.FINAL))) {
            fault(1, "the class is public and final", tree);
        }
        if (!top && (!inside || tree.getKind() == Tree.Kind.CLASS && !told.contains(Modifier.STATIC))) {
            fault(2, "a class that is local, anonymous, or not static", tree);
        }
        if (!top && (told.contains(Modifier.PUBLIC) || told.contains(Modifier.PROTECTED))) {
            fault(1, "an open class inside", tree);
        }
        int fields = 0;
        for (Tree member : tree.getMembers()) {
            if (member instanceof BlockTree) {
                fault(5, "an initialiser block", member);
            }
            if (member instanceof VariableTree field) {
                fields += field.getModifiers().getFlags().contains(Modifier.STATIC) ? 0 : 1;
            }
        }
        if (fields > MOST_FIELDS) {
            fault(11, fields + " fields", tree);
        }
        return super.visitClass(tree, v);
    }

    @Override
    public Void visitVariable(VariableTree tree, Void v) {
        TypeMirror type = elementOf(tree) == null ? null : trees.getElement(getCurrentPath()).asType();
        if (type != null && !mayBe(type)) {
            fault(3, "the type " + type, tree);
        }
        Set<Modifier> told = tree.getModifiers().getFlags();
        if (aheadOf() instanceof ClassTree && told.contains(Modifier.STATIC)) {
            staticField(tree, told);
        }
        return super.visitVariable(tree, v);
    }

    private void staticField(VariableTree tree, Set<Modifier> told) {
        if (!told.contains(Modifier.FINAL)) {
            fault(5, "a static field that is not final", tree);
        }
        String type = tree.getType().toString();
        boolean constant = Set.of("int", "long", "boolean", "char", "String").contains(type);
        boolean row = Set.of("int[]", "long[]", "char[]", "byte[]").contains(type)
                && tree.getInitializer() instanceof NewArrayTree made && made.getInitializers() != null;
        if (!constant && !row) {
            fault(5, "a static " + type, tree);
        }
    }

    private static boolean mayBe(TypeMirror type) {
        if (type.getKind().isPrimitive()) {
            return true;
        }
        if (type.getKind() == TypeKind.ARRAY) {
            TypeMirror part = ((ArrayType) type).getComponentType();
            boolean two = part.getKind() == TypeKind.ARRAY;
            return two ? ((ArrayType) part).getComponentType().getKind().isPrimitive() : mayBe(part);
        }
        return LIBRARY_TYPES.contains(type.toString()) || type.toString().startsWith("EntailedLand");
    }

    @Override
    public Void visitArrayType(ArrayTypeTree tree, Void v) {
        if (tree.toString().endsWith("[][][]")) {
            fault(3, "three dimensions", tree);
        }
        return super.visitArrayType(tree, v);
    }

    // ---- methods

    @Override
    public Void visitMethod(MethodTree tree, Void v) {
        ExecutableElement method = (ExecutableElement) trees.getElement(getCurrentPath());
        calls.computeIfAbsent(method, none -> new LinkedHashSet<>());
        if (tree.getParameters().size() > MOST_PARAMETERS) {
            fault(11, tree.getName() + " takes " + tree.getParameters().size(), tree);
        }
        if (!tree.getThrows().isEmpty()) {
            fault(6, tree.getName() + " throws", tree);
        }
        long first = trees.getSourcePositions().getStartPosition(unit, tree);
        long last = trees.getSourcePositions().getEndPosition(unit, tree);
        if (last > first && lineOf(last) - lineOf(first) + 1 > MOST_LINES) {
            fault(11, tree.getName() + " is long", tree);
        }
        return super.visitMethod(tree, v);
    }

    private long lineOf(long place) {
        return unit.getLineMap().getLineNumber(place);
    }

    /** The method around the present place; null within a field's initialiser. */
    private Element around() {
        for (TreePath p = getCurrentPath(); p != null; p = p.getParentPath()) {
            if (p.getLeaf() instanceof MethodTree) {
                return trees.getElement(p);
            }
        }
        return null;
    }

    @Override
    public Void visitMethodInvocation(MethodInvocationTree tree, Void v) {
        Element called = trees.getElement(getCurrentPath());
        Element from = around();
        if (called.getKind() == ElementKind.METHOD && isOwn(called)) {
            if (from != null) {
                calls.computeIfAbsent(from, none -> new LinkedHashSet<>()).add(called);
            }
        } else if (called.getKind() == ElementKind.METHOD) {
            String owner = called.getEnclosingElement().toString();
            String name = called.getSimpleName().toString();
            boolean copyOfRow = name.equals("clone") && tree.getMethodSelect().toString().contains(".");
            if (!LIBRARY.getOrDefault(owner, Set.of()).contains(name) && !copyOfRow) {
                fault(4, owner + "." + name, tree);
            }
        }
        return super.visitMethodInvocation(tree, v);
    }

    @Override
    public Void visitNewClass(NewClassTree tree, Void v) {
        String type = tree.getIdentifier().toString();
        Element made = trees.getElement(getCurrentPath());
        if (!isOwn(made)) {
            fault(4, "new " + type, tree);
        }
        madeByACall(tree);
        return super.visitNewClass(tree, v);
    }

    @Override
    public Void visitNewArray(NewArrayTree tree, Void v) {
        madeByACall(tree);
        return super.visitNewArray(tree, v);
    }

    /** More than the rule asks: this class makes all its objects in constructors. */
    private void madeByACall(Tree tree) {
        Element from = around();
        if (from != null && from.getKind() != ElementKind.CONSTRUCTOR) {
            fault(12, "an object is made by a call", tree);
        }
    }

    // ---- what is never written

    @Override
    public Void visitThrow(ThrowTree tree, Void v) {
        fault(6, "throw", tree);
        return super.visitThrow(tree, v);
    }

    @Override
    public Void visitTry(TryTree tree, Void v) {
        fault(6, "try", tree);
        return super.visitTry(tree, v);
    }

    @Override
    public Void visitSynchronized(SynchronizedTree tree, Void v) {
        fault(6, "synchronized", tree);
        return super.visitSynchronized(tree, v);
    }

    @Override
    public Void visitAssert(AssertTree tree, Void v) {
        fault(6, "assert", tree);
        return super.visitAssert(tree, v);
    }

    @Override
    public Void visitLambdaExpression(LambdaExpressionTree tree, Void v) {
        fault(2, "a lambda", tree);
        return super.visitLambdaExpression(tree, v);
    }

    @Override
    public Void visitMemberReference(MemberReferenceTree tree, Void v) {
        fault(2, "a method reference", tree);
        return super.visitMemberReference(tree, v);
    }

    @Override
    public Void visitBinary(BinaryTree tree, Void v) {
        TypeMirror type = trees.getTypeMirror(getCurrentPath());
        if (type != null && type.toString().equals("java.lang.String")) {
            fault(10, "texts joined by +", tree);
        }
        if (tree.getKind() == Tree.Kind.DIVIDE || tree.getKind() == Tree.Kind.REMAINDER) {
            divisor(tree, tree.getRightOperand());
        }
        return super.visitBinary(tree, v);
    }

    // ---- divisors and loops

    /** A divisor is a number other than 0, or is compared ahead of it in the same method. */
    private void divisor(Tree tree, ExpressionTree by) {
        Element e = trees.getElement(new TreePath(getCurrentPath(), by));
        boolean named = e instanceof javax.lang.model.element.VariableElement c && c.getConstantValue() instanceof Number n
                && n.longValue() != 0;
        boolean written = by.toString().matches("[1-9][0-9]*L?");
        if (!named && !written && !methodText().matches("(?s).*\\b" + by + " [!=]= 0\\b.*")) {
            fault(7, "a divisor that was not looked at: " + by, tree);
        }
    }

    private String methodText() {
        for (TreePath p = getCurrentPath(); p != null; p = p.getParentPath()) {
            if (p.getLeaf() instanceof MethodTree) {
                return p.getLeaf().toString();
            }
        }
        return "";
    }

    @Override
    public Void visitWhileLoop(WhileLoopTree tree, Void v) {
        fault(9, "while: here each loop counts", tree);
        return super.visitWhileLoop(tree, v);
    }

    @Override
    public Void visitDoWhileLoop(DoWhileLoopTree tree, Void v) {
        fault(9, "do: here each loop counts", tree);
        return super.visitDoWhileLoop(tree, v);
    }

    @Override
    public Void visitForLoop(ForLoopTree tree, Void v) {
        String counter = counterOf(tree);
        if (counter == null) {
            fault(9, "a loop without a counter against a bound", tree);
        } else if (assignedIn(tree.getStatement(), counter)) {
            fault(9, "the counter " + counter + " is changed within its loop", tree);
        }
        return super.visitForLoop(tree, v);
    }

    private static String counterOf(ForLoopTree tree) {
        if (tree.getInitializer().size() != 1 || tree.getUpdate().size() != 1 || tree.getCondition() == null) {
            return null;
        }
        StatementTree begin = tree.getInitializer().get(0);
        if (!(begin instanceof VariableTree counter)) {
            return null;
        }
        String name = counter.getName().toString();
        String step = tree.getUpdate().get(0).getExpression().toString();
        boolean up = step.equals(name + "++") || step.startsWith(name + " += ");
        boolean down = step.equals(name + "--");
        return up && isBound(tree.getCondition(), name, true) || down && isBound(tree.getCondition(), name, false)
                ? name : null;
    }

    /** Whether the loop ends once the counter has gone far enough: a part of a row of &&. */
    private static boolean isBound(ExpressionTree condition, String name, boolean up) {
        if (condition instanceof ParenthesizedTree inner) {
            return isBound(inner.getExpression(), name, up);
        }
        if (!(condition instanceof BinaryTree b)) {
            return false;
        }
        if (b.getKind() == Tree.Kind.CONDITIONAL_AND) {
            return isBound(b.getLeftOperand(), name, up) || isBound(b.getRightOperand(), name, up);
        }
        boolean less = b.getKind() == Tree.Kind.LESS_THAN || b.getKind() == Tree.Kind.LESS_THAN_EQUAL;
        boolean more = b.getKind() == Tree.Kind.GREATER_THAN || b.getKind() == Tree.Kind.GREATER_THAN_EQUAL;
        return (up ? less : more) && b.getLeftOperand().toString().matches("\\b" + name + "\\b.*");
    }

    private static boolean assignedIn(Tree body, String name) {
        boolean[] found = new boolean[1];
        new com.sun.source.util.TreeScanner<Void, Void>() {
            private void seen(Tree variable) {
                found[0] |= variable instanceof IdentifierTree id && id.getName().contentEquals(name);
            }

            @Override
            public Void visitAssignment(AssignmentTree tree, Void v) {
                seen(tree.getVariable());
                return super.visitAssignment(tree, v);
            }

            @Override
            public Void visitCompoundAssignment(CompoundAssignmentTree tree, Void v) {
                seen(tree.getVariable());
                return super.visitCompoundAssignment(tree, v);
            }

            @Override
            public Void visitUnary(UnaryTree tree, Void v) {
                if (tree.getKind().name().contains("CREMENT")) {
                    seen(tree.getExpression());
                }
                return super.visitUnary(tree, v);
            }
        }.scan(body, null);
        return found[0];
    }

    // ---- how deep calls go

    private void depths() {
        for (Element method : calls.keySet()) {
            if (reaches(method, method, new LinkedHashSet<>())) {
                recursion((ExecutableElement) method);
            }
            if (method.getModifiers().contains(Modifier.PUBLIC) && method.getKind() == ElementKind.METHOD) {
                List<Element> deepest = deepest(method, new ArrayList<>(), new ArrayList<>());
                if (deepest.size() > MOST_DEEP) {
                    faults.add("rule 11: " + deepest.size() + " deep: " + deepest);
                }
            }
        }
    }

    /** The longest row of calls of which none comes twice: a recursion is gone through once. */
    private List<Element> deepest(Element at, List<Element> row, List<Element> best) {
        List<Element> longest = best;
        row.add(at);
        if (row.size() > longest.size()) {
            longest = new ArrayList<>(row);
        }
        for (Element called : calls.getOrDefault(at, Set.of())) {
            if (!row.contains(called)) {
                longest = deepest(called, row, longest);
            }
        }
        row.remove(row.size() - 1);
        return longest;
    }

    private boolean reaches(Element from, Element to, Set<Element> seen) {
        for (Element called : calls.getOrDefault(from, Set.of())) {
            if (called == to || seen.add(called) && reaches(called, to, seen)) {
                return true;
            }
        }
        return false;
    }

    private void recursion(ExecutableElement method) {
        boolean carried = method.getParameters().stream().anyMatch(p -> p.getSimpleName().contentEquals("depth"));
        if (!method.getModifiers().contains(Modifier.PRIVATE) || !carried) {
            faults.add("rule 8: " + method + " calls itself, not private or without its depth");
        }
    }
}
