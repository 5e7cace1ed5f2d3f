import com.sun.source.tree.ArrayAccessTree;
import com.sun.source.tree.AssertTree;
import com.sun.source.tree.BinaryTree;
import com.sun.source.tree.ClassTree;
import com.sun.source.tree.CompilationUnitTree;
import com.sun.source.tree.CompoundAssignmentTree;
import com.sun.source.tree.ConditionalExpressionTree;
import com.sun.source.tree.DoWhileLoopTree;
import com.sun.source.tree.ExpressionTree;
import com.sun.source.tree.ForLoopTree;
import com.sun.source.tree.LambdaExpressionTree;
import com.sun.source.tree.LiteralTree;
import com.sun.source.tree.MemberReferenceTree;
import com.sun.source.tree.MethodInvocationTree;
import com.sun.source.tree.MethodTree;
import com.sun.source.tree.NewArrayTree;
import com.sun.source.tree.NewClassTree;
import com.sun.source.tree.SynchronizedTree;
import com.sun.source.tree.ThrowTree;
import com.sun.source.tree.Tree;
import com.sun.source.tree.TryTree;
import com.sun.source.tree.TypeCastTree;
import com.sun.source.tree.VariableTree;
import com.sun.source.tree.WhileLoopTree;
import com.sun.source.util.JavacTask;
import com.sun.source.util.TreePath;
import com.sun.source.util.TreePathScanner;
import com.sun.source.util.Trees;
import java.io.File;
import java.io.IOException;
import java.util.ArrayList;
import java.util.HashMap;
import java.util.LinkedHashSet;
import java.util.List;
import java.util.Map;
import java.util.Set;
import javax.lang.model.element.Element;
import javax.lang.model.element.ElementKind;
import javax.lang.model.element.Modifier;
import javax.tools.JavaCompiler;
import javax.tools.StandardJavaFileManager;
import javax.tools.ToolProvider;

/**
 * The program's text against LANGUAGE.md, rule by rule, as far as a compiler's tree shows it. It is
 * stricter than the rules where the program needs less than they allow (no try, no lists, no objects
 * made but in constructors).
 */
public final class LanguageTest {
    private static final File PROGRAM = new File("src/main/java/SpringChain.java");
    private static final List<String> TYPES = List.of("int", "long", "short", "byte", "char", "boolean", "double", "String",
            "int[]", "long[]", "byte[]", "boolean[]");
    private static final List<String> CONSTANT_TYPES = List.of("int", "long", "boolean", "char", "String");
    private static final List<String> LIBRARY = List.of("String.length", "String.charAt", "Math.max", "Math.min", "Math.abs");
    private static final List<String> EXCEPTIONS = List.of("IllegalStateException", "IllegalArgumentException",
            "IndexOutOfBoundsException", "ArithmeticException", "UnsupportedOperationException", "NoSuchElementException",
            "RuntimeException");
    private static final int MOST_PARAMETERS = 7;
    private static final int MOST_LINES = 60;
    private static final int MOST_DEEP = 8;
    private static final int MOST_CLASSES = 12;
    private static final int MOST_FIELDS = 20;
    private static final int RULES = 13;

    private static final Map<Integer, List<String>> FAULTS = new HashMap<>();
    private static final Map<Element, Set<Element>> CALLS = new HashMap<>();
    private static final List<String> OWN = new ArrayList<>();

    public static void main(String[] args) throws IOException {
        JavaCompiler compiler = ToolProvider.getSystemJavaCompiler();
        StandardJavaFileManager files = compiler.getStandardFileManager(null, null, null);
        JavacTask task = (JavacTask) compiler.getTask(null, files, null, null, null, files.getJavaFileObjects(PROGRAM));
        CompilationUnitTree unit = task.parse().iterator().next();
        task.analyze();
        new Names().scan(unit, null);
        new Rules(unit, Trees.instance(task)).scan(unit, null);
        if (unit.getPackage() != null || unit.getTypeDecls().size() != 1) {
            fault(1, unit, "a package line or a second class");
        }
        if (OWN.size() > MOST_CLASSES) {
            fault(11, unit, "too many classes: " + OWN);
        }
        depths(unit);
        for (int rule = 1; rule <= RULES; rule++) {
            List<String> faults = FAULTS.getOrDefault(rule, List.of());
            Check.due("faults against rule " + rule + " of LANGUAGE.md", List.of(), () -> faults);
        }
        Check.due("methods and constructors seen", true, () -> CALLS.size() > 23);
        Check.end();
    }

    private static void fault(int rule, Tree where, String what) {
        String text = where.toString().replaceAll("\\s+", " ");
        FAULTS.computeIfAbsent(rule, r -> new ArrayList<>())
                .add(what + " at " + text.substring(0, Math.min(80, text.length())));
    }

    /** The deepest run of calls; there is no recursion in the program. */
    private static void depths(CompilationUnitTree unit) {
        Map<Element, Integer> known = new HashMap<>();
        for (Element method : CALLS.keySet()) {
            int depth = depthOf(method, new LinkedHashSet<>(), known, unit);
            if (depth > MOST_DEEP) {
                fault(11, unit, method + " goes " + depth + " calls deep");
            }
        }
    }

    private static int depthOf(Element method, Set<Element> open, Map<Element, Integer> known, Tree unit) {
        if (known.containsKey(method)) {
            return known.get(method);
        }
        if (!open.add(method)) {
            fault(8, unit, "a recursion through " + method);
            return 0;
        }
        int deepest = 0;
        for (Element called : CALLS.getOrDefault(method, Set.of())) {
            deepest = Math.max(deepest, depthOf(called, open, known, unit));
        }
        open.remove(method);
        known.put(method, deepest + 1);
        return deepest + 1;
    }

    /** The names of the program's own classes. */
    private static final class Names extends TreePathScanner<Void, Void> {
        @Override
        public Void visitClass(ClassTree tree, Void none) {
            OWN.add(tree.getSimpleName().toString());
            return super.visitClass(tree, none);
        }
    }

    private static final class Rules extends TreePathScanner<Void, Void> {
        private final CompilationUnitTree unit;
        private final Trees trees;
        private MethodTree method;
        private Element caller;

        Rules(CompilationUnitTree unit, Trees trees) {
            this.unit = unit;
            this.trees = trees;
        }

        @Override
        public Void visitClass(ClassTree tree, Void none) {
            Set<Modifier> modifiers = tree.getModifiers().getFlags();
            boolean isOuter = getCurrentPath().getParentPath().getLeaf() == unit;
            if (isOuter && !modifiers.equals(Set.of(Modifier.PUBLIC, Modifier.FINAL))) {
                fault(1, tree, "the class of the document is not public and final");
            }
            if (!isOuter && (!modifiers.contains(Modifier.STATIC) || modifiers.contains(Modifier.PUBLIC))) {
                fault(1, tree, "a class inside that is not static or is public");
            }
            if (method != null) {
                fault(2, tree, "a class inside a method");
            }
            long fields = tree.getMembers().stream().filter(m -> m instanceof VariableTree v
                    && !v.getModifiers().getFlags().contains(Modifier.STATIC)).count();
            if (fields > MOST_FIELDS) {
                fault(11, tree, fields + " fields");
            }
            if (tree.getMembers().stream().anyMatch(m -> m.getKind() == Tree.Kind.BLOCK)) {
                fault(5, tree, "an initialiser block");
            }
            return super.visitClass(tree, none);
        }

        @Override
        public Void visitMethod(MethodTree tree, Void none) {
            method = tree;
            caller = trees.getElement(getCurrentPath());
            CALLS.computeIfAbsent(caller, c -> new LinkedHashSet<>());
            if (tree.getParameters().size() > MOST_PARAMETERS) {
                fault(11, tree, "too many parameters");
            }
            long start = trees.getSourcePositions().getStartPosition(unit, tree);
            long end = trees.getSourcePositions().getEndPosition(unit, tree);
            if (unit.getLineMap().getLineNumber(end) - unit.getLineMap().getLineNumber(start) >= MOST_LINES) {
                fault(11, tree, "a long method");
            }
            if (tree.getReturnType() != null && !tree.getReturnType().toString().equals("void")) {
                checkType(tree.getReturnType());
            }
            super.visitMethod(tree, none);
            method = null;
            caller = null;
            return null;
        }

        @Override
        public Void visitVariable(VariableTree tree, Void none) {
            checkType(tree.getType());
            Set<Modifier> modifiers = tree.getModifiers().getFlags();
            boolean isConstant = modifiers.contains(Modifier.FINAL) && CONSTANT_TYPES.contains(tree.getType().toString());
            if (modifiers.contains(Modifier.STATIC) && !isConstant) {
                fault(5, tree, "a static field that is no constant");
            }
            return super.visitVariable(tree, none);
        }

        private void checkType(Tree type) {
            String name = type.toString();
            boolean isOwn = OWN.contains(name) || name.endsWith("[]") && OWN.contains(name.replace("[]", ""))
                    && name.indexOf('[') == name.length() - 2;
            if (!TYPES.contains(name) && !isOwn) {
                fault(3, type, "a type that is not allowed");
            }
        }

        @Override
        public Void visitMethodInvocation(MethodInvocationTree tree, Void none) {
            Element called = trees.getElement(new TreePath(getCurrentPath(), tree.getMethodSelect()));
            String owner = called.getEnclosingElement().getSimpleName().toString();
            String name = owner + "." + called.getSimpleName();
            if (called.getKind() == ElementKind.CONSTRUCTOR) {
                return super.visitMethodInvocation(tree, none);
            }
            if (OWN.contains(owner)) {
                note(called);
                boolean isPrivateClass = owner.equals("SpringChain")
                        || called.getEnclosingElement().getModifiers().contains(Modifier.FINAL);
                if (isInConstructor() && !isPrivateClass) {
                    fault(12, tree, "a constructor calls what another class could override");
                }
            } else if (!LIBRARY.contains(name)) {
                fault(4, tree, name + " is not in the library");
            }
            return super.visitMethodInvocation(tree, none);
        }

        private void note(Element called) {
            if (caller != null) {
                CALLS.get(caller).add(called);
            }
        }

        private boolean isInConstructor() {
            return method != null && method.getReturnType() == null;
        }

        @Override
        public Void visitNewClass(NewClassTree tree, Void none) {
            String name = tree.getIdentifier().toString();
            boolean isThrown = getCurrentPath().getParentPath().getLeaf() instanceof ThrowTree;
            if (!isThrown && !OWN.contains(name)) {
                fault(4, tree, "an object of a class that is not its own");
            }
            if (!isThrown && !isInConstructor()) {
                fault(12, tree, "an object made by a call");
            }
            if (!isThrown) {
                note(trees.getElement(getCurrentPath()));
            }
            if (tree.getClassBody() != null) {
                fault(2, tree, "an anonymous class");
            }
            return super.visitNewClass(tree, none);
        }

        @Override
        public Void visitNewArray(NewArrayTree tree, Void none) {
            boolean isConstant = tree.getDimensions().size() == 1
                    && tree.getDimensions().get(0).toString().matches("[A-Z_]+");
            if (!isInConstructor() || !isConstant) {
                fault(7, tree, "an array made by a call or with a length that is no constant");
            }
            return super.visitNewArray(tree, none);
        }

        @Override
        public Void visitThrow(ThrowTree tree, Void none) {
            boolean isPlain = false;
            if (tree.getExpression() instanceof NewClassTree made && EXCEPTIONS.contains(made.getIdentifier().toString())) {
                List<? extends ExpressionTree> told = made.getArguments();
                isPlain = told.isEmpty() || told.size() == 1 && told.get(0).getKind() == Tree.Kind.STRING_LITERAL;
            }
            if (!isPlain || isInConstructor()) {
                fault(6, tree, "a throw of another kind, or in a constructor");
            }
            return super.visitThrow(tree, none);
        }

        @Override
        public Void visitTry(TryTree tree, Void none) {
            fault(6, tree, "a try");
            return super.visitTry(tree, none);
        }

        @Override
        public Void visitSynchronized(SynchronizedTree tree, Void none) {
            fault(6, tree, "synchronized");
            return super.visitSynchronized(tree, none);
        }

        @Override
        public Void visitAssert(AssertTree tree, Void none) {
            fault(6, tree, "assert");
            return super.visitAssert(tree, none);
        }

        @Override
        public Void visitLambdaExpression(LambdaExpressionTree tree, Void none) {
            fault(2, tree, "a lambda");
            return super.visitLambdaExpression(tree, none);
        }

        @Override
        public Void visitMemberReference(MemberReferenceTree tree, Void none) {
            fault(2, tree, "a method reference");
            return super.visitMemberReference(tree, none);
        }

        @Override
        public Void visitLiteral(LiteralTree tree, Void none) {
            if (tree.getValue() instanceof String text && !text.chars().allMatch(c -> c >= 1 && c <= 127)) {
                fault(4, tree, "a sign that is not 1 to 127");
            }
            return super.visitLiteral(tree, none);
        }

        @Override
        public Void visitBinary(BinaryTree tree, Void none) {
            if (tree.getKind() == Tree.Kind.DIVIDE || tree.getKind() == Tree.Kind.REMAINDER) {
                checkDivisor(tree.getRightOperand());
            }
            boolean isText = trees.getTypeMirror(getCurrentPath()).toString().equals("java.lang.String");
            if (tree.getKind() == Tree.Kind.PLUS && isText) {
                fault(10, tree, "texts joined by +");
            }
            return super.visitBinary(tree, none);
        }

        @Override
        public Void visitCompoundAssignment(CompoundAssignmentTree tree, Void none) {
            if (tree.getKind() == Tree.Kind.DIVIDE_ASSIGNMENT || tree.getKind() == Tree.Kind.REMAINDER_ASSIGNMENT) {
                checkDivisor(tree.getExpression());
            }
            return super.visitCompoundAssignment(tree, none);
        }

        // A divisor is a number, or a variable (also one of a product, or cast) that a ?: around it tests for 0.
        private void checkDivisor(ExpressionTree divisor) {
            String name = divisor.toString().replaceAll("\\(double\\)|^\\(|\\)$|\\d+ \\* ", "").trim();
            boolean isTested = name.matches("[1-9]\\d*");
            for (TreePath at = getCurrentPath(); at != null; at = at.getParentPath()) {
                isTested |= at.getLeaf() instanceof ConditionalExpressionTree choice
                        && choice.getCondition().toString().equals("(" + name + " == 0)");
                isTested |= at.getLeaf() instanceof ConditionalExpressionTree choice
                        && choice.getCondition().toString().equals(name + " == 0");
            }
            if (!isTested) {
                fault(7, divisor, "a divisor that is not tested");
            }
        }

        // The row's bound is compared in a loop's head, in an if or in a ?: ahead of the place itself.
        @Override
        public Void visitArrayAccess(ArrayAccessTree tree, Void none) {
            String index = tree.getIndex().toString();
            String text = method == null ? "" : method.getBody().toString();
            int place = text.indexOf(tree.toString());
            String ahead = place < 0 ? "" : text.substring(0, place);
            boolean isTested = false;
            for (String test : List.of(index + " < ", index + " >= ", "hasMass(" + index + ")", "hasSpring(" + index + ")")) {
                isTested |= ahead.contains(test);
            }
            if (!isTested || !index.matches("[a-z]\\w*")) {
                fault(7, tree, "an index that is not looked at");
            }
            return super.visitArrayAccess(tree, none);
        }

        @Override
        public Void visitTypeCast(TypeCastTree tree, Void none) {
            if (!trees.getTypeMirror(getCurrentPath()).getKind().isPrimitive()) {
                fault(7, tree, "a cast to a class");
            }
            return super.visitTypeCast(tree, none);
        }

        @Override
        public Void visitForLoop(ForLoopTree tree, Void none) {
            if (tree.getCondition() == null || !tree.getCondition().toString().matches(".*(<|>).*")) {
                fault(9, tree, "a loop without a bound");
            }
            return super.visitForLoop(tree, none);
        }

        @Override
        public Void visitWhileLoop(WhileLoopTree tree, Void none) {
            if (!tree.getCondition().toString().matches(".*(<|>).*")) {
                fault(9, tree, "a loop without a bound");
            }
            return super.visitWhileLoop(tree, none);
        }

        @Override
        public Void visitDoWhileLoop(DoWhileLoopTree tree, Void none) {
            fault(9, tree, "a do loop");
            return super.visitDoWhileLoop(tree, none);
        }
    }
}
