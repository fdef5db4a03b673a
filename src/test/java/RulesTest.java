import com.sun.source.tree.BinaryTree;
import com.sun.source.tree.ClassTree;
import com.sun.source.tree.CompilationUnitTree;
import com.sun.source.tree.CompoundAssignmentTree;
import com.sun.source.tree.DoWhileLoopTree;
import com.sun.source.tree.ExpressionTree;
import com.sun.source.tree.ForLoopTree;
import com.sun.source.tree.LambdaExpressionTree;
import com.sun.source.tree.MemberReferenceTree;
import com.sun.source.tree.MethodInvocationTree;
import com.sun.source.tree.MethodTree;
import com.sun.source.tree.NewClassTree;
import com.sun.source.tree.ThrowTree;
import com.sun.source.tree.Tree;
import com.sun.source.tree.TryTree;
import com.sun.source.tree.VariableTree;
import com.sun.source.tree.WhileLoopTree;
import com.sun.source.util.JavacTask;
import com.sun.source.util.TreePathScanner;
import com.sun.source.util.Trees;
import java.io.IOException;
import java.nio.file.Path;
import java.util.HashSet;
import java.util.LinkedHashMap;
import java.util.LinkedHashSet;
import java.util.List;
import java.util.Map;
import java.util.Set;
import javax.lang.model.element.Element;
import javax.lang.model.element.ElementKind;
import javax.lang.model.element.ExecutableElement;
import javax.lang.model.element.Modifier;
import javax.lang.model.element.TypeElement;
import javax.lang.model.type.ArrayType;
import javax.lang.model.type.TypeMirror;
import javax.tools.JavaCompiler;
import javax.tools.StandardJavaFileManager;
import javax.tools.ToolProvider;

/** Those rules of LANGUAGE.md that only the compiler's own view of PinInn.java can tell. */
public final class RulesTest extends TreePathScanner<Void, Void> {
    private static final Path SOURCE = Path.of("src/main/java/PinInn.java");
    private static final Set<String> LIBRARY = Set.of("String.length", "String.charAt", "Math.abs", "Math.min", "Math.max",
        "System.arraycopy", "Arrays.fill", "Object.<init>");
    private static final Set<String> THROWN = Set.of("IllegalStateException", "IllegalArgumentException",
        "IndexOutOfBoundsException", "ArithmeticException", "UnsupportedOperationException", "NoSuchElementException",
        "RuntimeException");
    private static final Set<String> FIXED = Set.of("int", "long", "boolean", "char", "java.lang.String", "int[]", "long[]",
        "char[]", "byte[]");
    private static final int DEEPEST = 8;

    private final Trees trees;
    private final JavacTask task;
    private final Map<Element, Set<Element>> calls = new LinkedHashMap<>();
    private Element caller = null;

    private RulesTest(JavacTask task) {
        this.task = task;
        this.trees = Trees.instance(task);
    }

    public static void main(String[] args) throws IOException {
        JavaCompiler compiler = ToolProvider.getSystemJavaCompiler();
        try (StandardJavaFileManager files = compiler.getStandardFileManager(null, null, null)) {
            JavacTask task = (JavacTask) compiler.getTask(null, files, null, List.of("-proc:none"), null,
                files.getJavaFileObjects(SOURCE.toFile()));
            RulesTest rules = new RulesTest(task);
            for (CompilationUnitTree unit : task.parse()) {
                task.analyze();
                rules.scan(unit, null);
            }
            rules.overridden();
            rules.depths();
        }
        Inn.close("RulesTest");
    }

    private static void due(String what, boolean kept) {
        Inn.due(what, kept, true);
    }

    private Element here() {
        return trees.getElement(getCurrentPath());
    }

    private static String named(Element method) {
        return method.getEnclosingElement().getSimpleName() + "." + method.getSimpleName();
    }

    private static boolean isOwn(Element e) {
        Element outermost = e;
        while (outermost.getEnclosingElement() != null && outermost.getEnclosingElement().getKind() != ElementKind.PACKAGE) {
            outermost = outermost.getEnclosingElement();
        }
        return outermost.getSimpleName().contentEquals("PinInn");
    }

    @Override
    public Void visitClass(ClassTree tree, Void none) {
        Element inside = here().getEnclosingElement();
        due("rule 2: no class inside a method: " + tree.getSimpleName(), inside.getKind() != ElementKind.METHOD);
        return super.visitClass(tree, none);
    }

    @Override
    public Void visitMethod(MethodTree tree, Void none) {
        Element outer = caller;
        caller = here();
        calls.putIfAbsent(caller, new LinkedHashSet<>());
        super.visitMethod(tree, none);
        caller = outer;
        return null;
    }

    @Override
    public Void visitVariable(VariableTree tree, Void none) {
        Element e = here();
        due("rule 3: " + e.asType() + " " + e, isAllowed(e.asType()));
        if (e.getKind() == ElementKind.FIELD && e.getModifiers().contains(Modifier.STATIC)) {
            due("rule 5: final, and written out: " + e, e.getModifiers().contains(Modifier.FINAL) && tree.getInitializer() != null
                && FIXED.contains(e.asType().toString()));
        }
        return super.visitVariable(tree, none);
    }

    /** Numbers, texts and own classes; arrays of these, of two dimensions if they hold numbers. */
    private boolean isAllowed(TypeMirror type) {
        if (type instanceof ArrayType array) {
            TypeMirror held = array.getComponentType();
            return held instanceof ArrayType inner ? inner.getComponentType().getKind().isPrimitive() : isAllowed(held);
        }
        Element e = task.getTypes().asElement(type);
        return type.getKind().isPrimitive() || type.toString().equals("java.lang.String") || e != null && isOwn(e);
    }

    @Override
    public Void visitMethodInvocation(MethodInvocationTree tree, Void none) {
        Element called = here();
        if (isOwn(called)) {
            due("rule 12: a call outside of a method: " + tree, caller != null);
            calls.get(caller).add(called);
        } else {
            due("rule 4: " + named(called), LIBRARY.contains(named(called)));
        }
        return super.visitMethodInvocation(tree, none);
    }

    @Override
    public Void visitNewClass(NewClassTree tree, Void none) {
        Element made = here().getEnclosingElement();
        due("rule 4: new " + made, isOwn(made) || THROWN.contains(made.getSimpleName().toString()));
        if (isOwn(made) && caller != null) {
            calls.get(caller).add(here());
        }
        return super.visitNewClass(tree, none);
    }

    @Override
    public Void visitThrow(ThrowTree tree, Void none) {
        boolean isNew = tree.getExpression() instanceof NewClassTree;
        due("rule 6: new: " + tree, isNew);
        if (isNew) {
            NewClassTree made = (NewClassTree) tree.getExpression();
            due("rule 6: which: " + tree, THROWN.contains(made.getIdentifier().toString()));
            for (ExpressionTree text : made.getArguments()) {
                due("rule 6: a written text: " + tree, text.getKind() == Tree.Kind.STRING_LITERAL);
            }
        }
        due("rule 6: none in a constructor: " + tree, caller != null && caller.getKind() == ElementKind.METHOD);
        return super.visitThrow(tree, none);
    }

    @Override
    public Void visitTry(TryTree tree, Void none) {
        due("no try, so that nothing of the machine is caught: " + tree, false);
        return super.visitTry(tree, none);
    }

    @Override
    public Void visitLambdaExpression(LambdaExpressionTree tree, Void none) {
        due("rule 2: " + tree, false);
        return super.visitLambdaExpression(tree, none);
    }

    @Override
    public Void visitMemberReference(MemberReferenceTree tree, Void none) {
        due("rule 2: " + tree, false);
        return super.visitMemberReference(tree, none);
    }

    @Override
    public Void visitForLoop(ForLoopTree tree, Void none) {
        bounded(tree.getCondition());
        return super.visitForLoop(tree, none);
    }

    @Override
    public Void visitWhileLoop(WhileLoopTree tree, Void none) {
        bounded(tree.getCondition());
        return super.visitWhileLoop(tree, none);
    }

    @Override
    public Void visitDoWhileLoop(DoWhileLoopTree tree, Void none) {
        bounded(tree.getCondition());
        return super.visitDoWhileLoop(tree, none);
    }

    private static void bounded(ExpressionTree condition) {
        due("rule 9: a bound in " + condition, condition != null && condition.toString().matches("(?s).*[<>].*"));
    }

    @Override
    public Void visitBinary(BinaryTree tree, Void none) {
        due("rule 10: no text is joined by +: " + tree, tree.getKind() != Tree.Kind.PLUS || !isText());
        return super.visitBinary(tree, none);
    }

    @Override
    public Void visitCompoundAssignment(CompoundAssignmentTree tree, Void none) {
        due("rule 10: no text is joined by +=: " + tree, !isText());
        return super.visitCompoundAssignment(tree, none);
    }

    private boolean isText() {
        return trees.getTypeMirror(getCurrentPath()).toString().equals("java.lang.String");
    }

    /** A call of an abstract method may be one of any that stands in its place. */
    private void overridden() {
        for (Set<Element> called : calls.values()) {
            for (Element method : new HashSet<>(called)) {
                for (Element other : calls.keySet()) {
                    if (other instanceof ExecutableElement o && method instanceof ExecutableElement m
                        && task.getElements().overrides(o, m, (TypeElement) o.getEnclosingElement())) {
                        called.add(other);
                    }
                }
            }
        }
    }

    private Set<Element> reached(Element from) {
        Set<Element> found = new LinkedHashSet<>();
        collect(from, found);
        return found;
    }

    private void collect(Element from, Set<Element> found) {
        for (Element next : calls.getOrDefault(from, Set.of())) {
            if (found.add(next)) {
                collect(next, found);
            }
        }
    }

    private void depths() {
        Map<Element, Set<Element>> below = new LinkedHashMap<>();
        calls.keySet().forEach(method -> below.put(method, reached(method)));
        Map<Element, Integer> known = new LinkedHashMap<>();
        for (Element method : calls.keySet()) {
            if (method.getModifiers().contains(Modifier.PUBLIC)) {
                int deep = depth(method, below, known);
                due("rule 11: at most " + DEEPEST + " deep: " + named(method) + " goes " + deep, deep <= DEEPEST);
            }
        }
    }

    /** How many methods stand open at once; those that call one another count as one. */
    private int depth(Element from, Map<Element, Set<Element>> below, Map<Element, Integer> known) {
        if (known.containsKey(from)) {
            return known.get(from);
        }
        Set<Element> ring = new LinkedHashSet<>(Set.of(from));
        for (Element e : below.getOrDefault(from, Set.of())) {
            if (below.getOrDefault(e, Set.of()).contains(from)) {
                ring.add(e);
            }
        }
        int deepest = 0;
        for (Element member : ring) {
            for (Element next : calls.getOrDefault(member, Set.of())) {
                if (!ring.contains(next)) {
                    deepest = Math.max(deepest, depth(next, below, known));
                }
            }
        }
        for (Element member : ring) {
            known.put(member, deepest + 1);
        }
        return deepest + 1;
    }
}
