import com.sun.source.tree.AnnotationTree;
import com.sun.source.tree.AssertTree;
import com.sun.source.tree.BinaryTree;
import com.sun.source.tree.BlockTree;
import com.sun.source.tree.ClassTree;
import com.sun.source.tree.CompilationUnitTree;
import com.sun.source.tree.CompoundAssignmentTree;
import com.sun.source.tree.ConditionalExpressionTree;
import com.sun.source.tree.DoWhileLoopTree;
import com.sun.source.tree.ExpressionTree;
import com.sun.source.tree.ForLoopTree;
import com.sun.source.tree.IdentifierTree;
import com.sun.source.tree.ImportTree;
import com.sun.source.tree.LambdaExpressionTree;
import com.sun.source.tree.MemberReferenceTree;
import com.sun.source.tree.MethodInvocationTree;
import com.sun.source.tree.MethodTree;
import com.sun.source.tree.NewClassTree;
import com.sun.source.tree.ParenthesizedTree;
import com.sun.source.tree.SynchronizedTree;
import com.sun.source.tree.ThrowTree;
import com.sun.source.tree.Tree;
import com.sun.source.tree.TryTree;
import com.sun.source.tree.TypeCastTree;
import com.sun.source.tree.VariableTree;
import com.sun.source.tree.WhileLoopTree;
import com.sun.source.util.JavacTask;
import com.sun.source.util.TreePath;
import com.sun.source.util.TreePathScanner;
import com.sun.source.util.Trees;
import java.io.IOException;
import java.net.URI;
import java.util.ArrayList;
import java.util.HashMap;
import java.util.HashSet;
import java.util.LinkedHashSet;
import java.util.List;
import java.util.Map;
import java.util.Set;
import javax.lang.model.element.Element;
import javax.lang.model.element.ElementKind;
import javax.lang.model.element.Modifier;
import javax.lang.model.element.VariableElement;
import javax.lang.model.type.ArrayType;
import javax.lang.model.type.TypeKind;
import javax.lang.model.type.TypeMirror;
import javax.tools.JavaCompiler;
import javax.tools.JavaFileObject;
import javax.tools.SimpleJavaFileObject;
import javax.tools.ToolProvider;

/**
 * Reads a source as javac does and tells where it leaves LANGUAGE.md. It is stricter than the rules where the class
 * needs no more: no exception, no recursion, no library but whole numbers and arrays.
 */
final class LanguageRules extends TreePathScanner<Void, Void> {
    private static final int MOST_PARAMETERS = 7;
    private static final int MOST_LINES = 60;
    private static final int MOST_CALLS_DEEP = 8;
    private static final int MOST_CLASSES = 12;
    private static final int MOST_FIELDS = 20;

    private static final Set<String> LIBRARY = Set.of(
        "java.lang.Math.min(int,int)", "java.lang.Math.max(int,int)", "java.lang.Math.abs(int)",
        "java.lang.Integer.bitCount(int)", "java.util.Arrays.copyOf(int[],int)", "java.util.Arrays.fill(int[],int)");
    private static final Set<String> NAMES_OF_EVERY_OBJECT = Set.of("equals", "hashCode", "toString");

    private final Set<String> faults = new LinkedHashSet<>();
    private final Map<Element, Set<Element>> calls = new HashMap<>();
    private final Trees trees;
    private final CompilationUnitTree unit;
    private int classes = 0;

    private LanguageRules(Trees trees, CompilationUnitTree unit) {
        this.trees = trees;
        this.unit = unit;
    }

    /** Each fault as "rule n, line l: what"; without a line if it is about calls. */
    static List<String> faultsOf(String source) throws IOException {
        JavaCompiler compiler = ToolProvider.getSystemJavaCompiler();
        List<String> options = List.of("--release", "17", "-proc:none");
        JavacTask task = (JavacTask) compiler.getTask(null, null, null, options, null, List.of(new Source(source)));
        Iterable<? extends CompilationUnitTree> units = task.parse();
        task.analyze();
        LanguageRules rules = new LanguageRules(Trees.instance(task), units.iterator().next());
        rules.scan(rules.unit, null);
        rules.checkUnit();
        rules.checkCalls();
        return new ArrayList<>(rules.faults);
    }

    private static final class Source extends SimpleJavaFileObject {
        private final String text;

        Source(String text) {
            super(URI.create("string:///SpatialTables.java"), JavaFileObject.Kind.SOURCE);
            this.text = text;
        }

        @Override
        public CharSequence getCharContent(boolean ignoreEncodingErrors) {
            return text;
        }
    }

    private void fault(int rule, Tree at, String what) {
        long start = trees.getSourcePositions().getStartPosition(unit, at);
        faults.add("rule " + rule + ", line " + unit.getLineMap().getLineNumber(Math.max(0, start)) + ": " + what);
    }

    private void fault(int rule, boolean is, Tree at, String what) {
        if (is) {
            fault(rule, at, what);
        }
    }

    private Element elementOf(Tree tree) {
        return trees.getElement(TreePath.getPath(unit, tree));
    }

    private TypeMirror typeOf(Tree tree) {
        return trees.getTypeMirror(TreePath.getPath(unit, tree));
    }

    private void checkUnit() {
        fault(1, unit.getPackageName() != null, unit, "a package line");
        fault(1, unit.getTypeDecls().size() != 1, unit, "not one class");
        fault(11, classes > MOST_CLASSES, unit, classes + " classes");
    }

    @Override
    public Void visitImport(ImportTree tree, Void none) {
        fault(4, !tree.getQualifiedIdentifier().toString().equals("java.util.Arrays"), tree, tree.toString().strip());
        return super.visitImport(tree, none);
    }

    @Override
    public Void visitClass(ClassTree tree, Void none) {
        classes++;
        Set<Modifier> modifiers = tree.getModifiers().getFlags();
        boolean inside = getCurrentPath().getParentPath().getLeaf() instanceof ClassTree;
        boolean outermost = getCurrentPath().getParentPath().getLeaf() == unit;
        fault(2, !inside && !outermost, tree, "a class inside a method");
        fault(1, inside && !modifiers.contains(Modifier.STATIC), tree, "a class inside that is not static");
        fault(1, inside && (modifiers.contains(Modifier.PUBLIC) || modifiers.contains(Modifier.PROTECTED)), tree,
            "a class inside that others see");
        int fields = 0;
        for (Tree member : tree.getMembers()) {
            fault(5, member instanceof BlockTree && ((BlockTree) member).isStatic(), member, "a static block");
            if (member instanceof VariableTree) {
                fields += isStaticField((VariableTree) member) ? 0 : 1;
            }
        }
        fault(11, fields > MOST_FIELDS, tree, fields + " fields");
        return super.visitClass(tree, none);
    }

    /** Whether a field is static; if so, it is looked at by rule 5. */
    private boolean isStaticField(VariableTree field) {
        VariableElement element = (VariableElement) elementOf(field);
        boolean isStatic = element.getModifiers().contains(Modifier.STATIC);
        boolean isFinal = element.getModifiers().contains(Modifier.FINAL);
        fault(5, isStatic && !isFinal, field, "a static field that is not final");
        fault(5, isStatic && element.getConstantValue() == null, field, "a static field that is no constant");
        return isStatic;
    }

    @Override
    public Void visitVariable(VariableTree tree, Void none) {
        Element element = elementOf(tree);
        fault(3, !isOfTheLanguage(element.asType()), tree, "the type " + element.asType());
        return super.visitVariable(tree, none);
    }

    private static boolean isOfTheLanguage(TypeMirror type) {
        if (type.getKind() != TypeKind.ARRAY) {
            return type.getKind().isPrimitive() || isOwn(type);
        }
        TypeMirror part = ((ArrayType) type).getComponentType();
        if (part.getKind() != TypeKind.ARRAY) {
            return isOfTheLanguage(part);
        }
        return ((ArrayType) part).getComponentType().getKind().isPrimitive();
    }

    private static boolean isOwn(TypeMirror type) {
        return type.toString().equals("SpatialTables") || type.toString().startsWith("SpatialTables.");
    }

    private static boolean isOwn(Element method) {
        return isOwn(method.getEnclosingElement().asType());
    }

    @Override
    public Void visitMethod(MethodTree tree, Void none) {
        fault(11, tree.getParameters().size() > MOST_PARAMETERS, tree, "the parameters of " + tree.getName());
        fault(11, linesOf(tree) > MOST_LINES, tree, "the length of " + tree.getName());
        fault(6, !tree.getThrows().isEmpty(), tree, "a throws clause");
        fault(6, NAMES_OF_EVERY_OBJECT.contains(tree.getName().toString()), tree, "a method " + tree.getName());
        calls.computeIfAbsent(elementOf(tree), key -> new HashSet<>());
        return super.visitMethod(tree, none);
    }

    private long linesOf(MethodTree tree) {
        long start = trees.getSourcePositions().getStartPosition(unit, tree);
        long end = trees.getSourcePositions().getEndPosition(unit, tree);
        return end < 0 ? 0 : unit.getLineMap().getLineNumber(end) - unit.getLineMap().getLineNumber(start) + 1;
    }

    /** The method or constructor round the tree that is looked at; null outside of all. */
    private MethodTree methodAround() {
        for (Tree tree : getCurrentPath()) {
            if (tree instanceof MethodTree) {
                return (MethodTree) tree;
            }
        }
        return null;
    }

    private void addCall(Element called) {
        MethodTree around = methodAround();
        if (around != null) {
            calls.computeIfAbsent(elementOf(around), key -> new HashSet<>()).add(called);
        }
    }

    @Override
    public Void visitMethodInvocation(MethodInvocationTree tree, Void none) {
        Element called = elementOf(tree);
        String name = called.getEnclosingElement() + "." + called;
        boolean isOfJava = called.getKind() == ElementKind.CONSTRUCTOR && name.equals("java.lang.Object.Object()");
        fault(4, !isOwn(called) && !isOfJava && !LIBRARY.contains(name), tree, "the library's " + name);
        fault(12, called.getKind() == ElementKind.METHOD && isOwn(called) && inConstructor() && isOpen(called), tree,
            "a constructor calls " + called);
        fault(12, inConstructor() && tree.getArguments().stream().anyMatch(a -> a.toString().equals("this")), tree,
            "a constructor hands its object out");
        addCall(called);
        return super.visitMethodInvocation(tree, none);
    }

    private boolean inConstructor() {
        MethodTree around = methodAround();
        return around != null && around.getName().contentEquals("<init>");
    }

    private static boolean isOpen(Element method) {
        Set<Modifier> owner = method.getEnclosingElement().getModifiers();
        Set<Modifier> own = method.getModifiers();
        return !owner.contains(Modifier.FINAL) && !own.contains(Modifier.FINAL) && !own.contains(Modifier.PRIVATE)
            && !own.contains(Modifier.STATIC);
    }

    @Override
    public Void visitNewClass(NewClassTree tree, Void none) {
        fault(4, !isOwn(typeOf(tree)), tree, "an object of " + typeOf(tree));
        addCall(elementOf(tree));
        return super.visitNewClass(tree, none);
    }

    @Override
    public Void visitLambdaExpression(LambdaExpressionTree tree, Void none) {
        fault(2, tree, "a lambda");
        return super.visitLambdaExpression(tree, none);
    }

    @Override
    public Void visitMemberReference(MemberReferenceTree tree, Void none) {
        fault(2, tree, "a method reference");
        return super.visitMemberReference(tree, none);
    }

    @Override
    public Void visitThrow(ThrowTree tree, Void none) {
        fault(6, tree, "a throw, but the document names no exception");
        return super.visitThrow(tree, none);
    }

    @Override
    public Void visitTry(TryTree tree, Void none) {
        fault(6, tree, "a try, but nothing throws");
        return super.visitTry(tree, none);
    }

    @Override
    public Void visitSynchronized(SynchronizedTree tree, Void none) {
        fault(6, tree, "synchronized");
        return super.visitSynchronized(tree, none);
    }

    @Override
    public Void visitAssert(AssertTree tree, Void none) {
        fault(6, tree, "assert");
        return super.visitAssert(tree, none);
    }

    @Override
    public Void visitAnnotation(AnnotationTree tree, Void none) {
        fault(4, tree, "an annotation");
        return super.visitAnnotation(tree, none);
    }

    @Override
    public Void visitTypeCast(TypeCastTree tree, Void none) {
        fault(6, !typeOf(tree).getKind().isPrimitive(), tree, "a cast to " + typeOf(tree));
        return super.visitTypeCast(tree, none);
    }

    @Override
    public Void visitBinary(BinaryTree tree, Void none) {
        boolean divides = tree.getKind() == Tree.Kind.DIVIDE || tree.getKind() == Tree.Kind.REMAINDER;
        fault(7, divides && !isLookedAt(tree.getRightOperand()), tree, "divides by " + tree.getRightOperand());
        boolean joins = tree.getKind() == Tree.Kind.PLUS && typeOf(tree).toString().endsWith("String");
        fault(10, joins, tree, "joins texts by +");
        return super.visitBinary(tree, none);
    }

    @Override
    public Void visitCompoundAssignment(CompoundAssignmentTree tree, Void none) {
        Tree.Kind kind = tree.getKind();
        boolean divides = kind == Tree.Kind.DIVIDE_ASSIGNMENT || kind == Tree.Kind.REMAINDER_ASSIGNMENT;
        fault(7, divides && !isLookedAt(tree.getExpression()), tree, "divides by " + tree.getExpression());
        return super.visitCompoundAssignment(tree, none);
    }

    /** Whether a divisor is a constant, or stands behind "divisor > 0 ?". */
    private boolean isLookedAt(ExpressionTree divisor) {
        Element element = elementOf(divisor);
        if (element instanceof VariableElement && ((VariableElement) element).getConstantValue() instanceof Integer) {
            return (Integer) ((VariableElement) element).getConstantValue() != 0;
        }
        if (divisor.getKind() == Tree.Kind.INT_LITERAL) {
            return !divisor.toString().equals("0");
        }
        Tree below = divisor;
        for (Tree tree : getCurrentPath()) {
            if (tree instanceof ConditionalExpressionTree) {
                ConditionalExpressionTree choice = (ConditionalExpressionTree) tree;
                boolean looks = bare(choice.getCondition()).equals(divisor + " > 0");
                if (looks && choice.getTrueExpression() == below) {
                    return true;
                }
            }
            below = tree;
        }
        return false;
    }

    private static String bare(ExpressionTree tree) {
        String text = tree.toString();
        return text.startsWith("(") && text.endsWith(")") ? text.substring(1, text.length() - 1) : text;
    }

    @Override
    public Void visitDoWhileLoop(DoWhileLoopTree tree, Void none) {
        fault(9, !ends(tree.getCondition(), tree.getStatement().toString()), tree, "a loop without a plain end");
        return super.visitDoWhileLoop(tree, none);
    }

    @Override
    public Void visitWhileLoop(WhileLoopTree tree, Void none) {
        fault(9, !ends(tree.getCondition(), tree.getStatement().toString()), tree, "a loop without a plain end");
        return super.visitWhileLoop(tree, none);
    }

    @Override
    public Void visitForLoop(ForLoopTree tree, Void none) {
        boolean ends = tree.getCondition() != null && ends(tree.getCondition(), tree.getUpdate().toString());
        fault(9, !ends, tree, "a loop without a plain end");
        fault(9, ends && setsCounter(tree), tree, "a loop that sets its counter");
        return super.visitForLoop(tree, none);
    }

    private static boolean setsCounter(ForLoopTree tree) {
        String counter = tree.getInitializer().get(0) instanceof VariableTree
            ? ((VariableTree) tree.getInitializer().get(0)).getName().toString() : "";
        String body = tree.getStatement().toString();
        return body.matches("(?s).*\\b" + counter + "(\\+\\+|--| [-+*/]?= ).*")
            || body.matches("(?s).*(\\+\\+|--)" + counter + "\\b.*");
    }

    /** Whether one of the conditions that must all hold is a counter below or above a bound that it runs to. */
    private static boolean ends(ExpressionTree condition, String steps) {
        Tree inner = condition;
        while (inner.getKind() == Tree.Kind.PARENTHESIZED) {
            inner = ((ParenthesizedTree) inner).getExpression();
        }
        if (!(inner instanceof BinaryTree)) {
            return false;
        }
        BinaryTree both = (BinaryTree) inner;
        if (inner.getKind() == Tree.Kind.CONDITIONAL_AND) {
            return ends(both.getLeftOperand(), steps) || ends(both.getRightOperand(), steps);
        }
        if (!(both.getLeftOperand() instanceof IdentifierTree)) {
            return false;
        }
        String counter = both.getLeftOperand().toString();
        boolean below = inner.getKind() == Tree.Kind.LESS_THAN || inner.getKind() == Tree.Kind.LESS_THAN_EQUAL;
        boolean above = inner.getKind() == Tree.Kind.GREATER_THAN || inner.getKind() == Tree.Kind.GREATER_THAN_EQUAL;
        return below && steps.contains(counter + "++") || above && steps.contains(counter + "--");
    }

    private void checkCalls() {
        for (Element method : calls.keySet()) {
            int depth = depthFrom(method, new ArrayList<>());
            if (depth > MOST_CALLS_DEEP) {
                faults.add("rule 11: " + method + " goes " + depth + " calls deep");
            }
        }
    }

    private int depthFrom(Element method, List<Element> open) {
        if (open.contains(method)) {
            faults.add("rule 8: " + method + " calls itself");
            return 0;
        }
        open.add(method);
        int deepest = 0;
        for (Element called : calls.getOrDefault(method, Set.of())) {
            // What every constructor begins with is no call of the program's own.
            boolean isOfJava = called.getEnclosingElement().toString().equals("java.lang.Object");
            deepest = Math.max(deepest, isOfJava ? 0 : depthFrom(called, open));
        }
        open.remove(method);
        return deepest + 1;
    }
}
