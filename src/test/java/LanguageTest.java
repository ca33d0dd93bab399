import com.sun.source.tree.AssertTree;
import com.sun.source.tree.AssignmentTree;
import com.sun.source.tree.BinaryTree;
import com.sun.source.tree.CatchTree;
import com.sun.source.tree.ClassTree;
import com.sun.source.tree.CompilationUnitTree;
import com.sun.source.tree.CompoundAssignmentTree;
import com.sun.source.tree.DoWhileLoopTree;
import com.sun.source.tree.ExpressionTree;
import com.sun.source.tree.ForLoopTree;
import com.sun.source.tree.ImportTree;
import com.sun.source.tree.LambdaExpressionTree;
import com.sun.source.tree.LiteralTree;
import com.sun.source.tree.MemberReferenceTree;
import com.sun.source.tree.MethodInvocationTree;
import com.sun.source.tree.MethodTree;
import com.sun.source.tree.NewArrayTree;
import com.sun.source.tree.NewClassTree;
import com.sun.source.tree.SynchronizedTree;
import com.sun.source.tree.ThrowTree;
import com.sun.source.tree.Tree;
import com.sun.source.tree.TryTree;
import com.sun.source.tree.TypeCastTree;
import com.sun.source.tree.VariableTree;
import com.sun.source.tree.WhileLoopTree;
import com.sun.source.util.JavacTask;
import com.sun.source.util.TreePath;
import com.sun.source.util.TreePathScanner;
import com.sun.source.util.Trees;
import java.io.IOException;
import java.nio.file.Path;
import java.util.ArrayList;
import java.util.HashSet;
import java.util.LinkedHashMap;
import java.util.LinkedHashSet;
import java.util.List;
import java.util.Map;
import java.util.Set;
import java.util.TreeSet;
import javax.lang.model.element.Element;
import javax.lang.model.element.ElementKind;
import javax.lang.model.element.ExecutableElement;
import javax.lang.model.element.Modifier;
import javax.lang.model.type.TypeKind;
import javax.tools.JavaCompiler;
import javax.tools.StandardJavaFileManager;
import javax.tools.ToolProvider;

/** The rules of LANGUAGE.md that the compiler's own trees of the class can show. */
public final class LanguageTest {
    private static final int MOST_LINES = 60;
    private static final int MOST_PARAMETERS = 7;
    private static final int MOST_DEEP = 8;
    private static final int MOST_CLASSES = 12;
    private static final int MOST_FIELDS = 20;

    // Rule 4, as far as the class has use for it.
    private static final Set<String> LIBRARY = Set.of(
        "java.lang.String.length", "java.lang.String.charAt", "java.lang.String.isEmpty",
        "java.lang.Math.min", "java.lang.Math.max", "java.lang.Math.abs", "java.lang.Math.floorMod", "java.lang.Math.floorDiv",
        "java.lang.Integer.bitCount", "java.lang.System.arraycopy", "java.util.Arrays.fill", "java.util.Arrays.copyOf",
        "java.util.Arrays.copyOfRange", "Array.clone", "java.lang.Object.<init>");
    private static final Set<String> COPIERS = Set.of("java.util.Arrays.copyOf", "java.util.Arrays.copyOfRange", "Array.clone");
    private static final String MAKER = "PainBank.LawReader.read(t)";
    private static final Set<String> IMPORTS = Set.of(
        "java.util.Arrays", "java.util.NoSuchElementException", "java.util.ArrayList", "java.util.List", "java.util.Iterator");
    private static final Set<String> EXCEPTIONS = Set.of(
        "IllegalStateException", "IllegalArgumentException", "IndexOutOfBoundsException", "ArithmeticException",
        "UnsupportedOperationException", "NoSuchElementException", "RuntimeException");
    private static final Set<String> CONSTANTS = Set.of(
        "int", "long", "boolean", "char", "java.lang.String", "int[]", "long[]", "char[]", "byte[]");

    private final Map<String, Set<String>> calls = new LinkedHashMap<>();
    private final Trees trees;
    private final CompilationUnitTree unit;
    private int classes;

    private LanguageTest(Trees trees, CompilationUnitTree unit) {
        this.trees = trees;
        this.unit = unit;
    }

    public static void main(String[] args) throws IOException {
        JavaCompiler compiler = ToolProvider.getSystemJavaCompiler();
        try (StandardJavaFileManager files = compiler.getStandardFileManager(null, null, null)) {
            JavacTask task = (JavacTask) compiler.getTask(null, files, null, List.of("-proc:none"), null,
                files.getJavaFileObjects(Path.of("src/main/java/PainBank.java")));
            CompilationUnitTree unit = task.parse().iterator().next();
            task.analyze();
            new LanguageTest(Trees.instance(task), unit).read();
        }
        Check.finish();
    }

    private void read() {
        new Rules().scan(unit, null);
        Check.due("classes", classes <= MOST_CLASSES, true);
        Check.due("a package line", unit.getPackageName() != null, false);
        for (String method : calls.keySet()) {
            List<String> chain = chainFrom(method, new LinkedHashSet<>());
            Check.due("rule 11: calls deeper than " + MOST_DEEP + ": " + chain, chain.size() > MOST_DEEP, false);
        }
        recursion();
    }

    /** The longest chain of calls in which no method comes twice, the library's own calls too. */
    private List<String> chainFrom(String method, Set<String> open) {
        List<String> longest = List.of();
        open.add(method);
        for (String next : calls.getOrDefault(method, Set.of())) {
            List<String> chain = open.contains(next) ? List.of() : chainFrom(next, open);
            longest = chain.size() > longest.size() ? chain : longest;
        }
        open.remove(method);
        List<String> all = new ArrayList<>(List.of(method));
        all.addAll(longest);
        return all;
    }

    /** Rule 8: a method that can come back to itself carries a depth that it tests. */
    private void recursion() {
        Set<String> round = new TreeSet<>();
        for (String method : calls.keySet()) {
            Set<String> reached = new HashSet<>();
            List<String> todo = new ArrayList<>(calls.get(method));
            while (!todo.isEmpty()) {
                String next = todo.remove(todo.size() - 1);
                if (reached.add(next)) {
                    todo.addAll(calls.getOrDefault(next, Set.of()));
                }
            }
            if (reached.contains(method)) {
                round.add(method);
            }
        }
        for (String method : round) {
            Check.due("rule 8: " + method + " comes back to itself without a depth", method.contains("depth"), true);
        }
    }

    private long lineOf(Tree tree, boolean end) {
        long at = end ? trees.getSourcePositions().getEndPosition(unit, tree) : trees.getSourcePositions().getStartPosition(unit, tree);
        return unit.getLineMap().getLineNumber(at);
    }

    private void banned(Tree tree, String rule) {
        Check.due(rule + " at line " + lineOf(tree, false) + ": " + tree.toString().replaceAll("\\s+", " "), true, false);
    }

    private final class Rules extends TreePathScanner<Void, Void> {
        private String inside = "";
        private boolean making;

        @Override
        public Void visitImport(ImportTree tree, Void none) {
            if (tree.isStatic() || !IMPORTS.contains(tree.getQualifiedIdentifier().toString())) {
                banned(tree, "rule 4");
            }
            return super.visitImport(tree, none);
        }

        @Override
        public Void visitClass(ClassTree tree, Void none) {
            classes++;
            int fields = 0;
            for (Tree member : tree.getMembers()) {
                if (member instanceof VariableTree field && !field.getModifiers().getFlags().contains(Modifier.STATIC)) {
                    fields++;
                }
                if (member.getKind() == Tree.Kind.BLOCK) {
                    banned(member, "rule 5");
                }
            }
            Check.due("rule 11: fields of " + tree.getSimpleName(), fields <= MOST_FIELDS, true);
            if (!getCurrentPath().getParentPath().getLeaf().equals(unit)) {
                Set<Modifier> flags = tree.getModifiers().getFlags();
                Check.due("rule 1: " + tree.getSimpleName(), flags.contains(Modifier.STATIC) && !flags.contains(Modifier.PUBLIC)
                    && !flags.contains(Modifier.PROTECTED), true);
            }
            return super.visitClass(tree, none);
        }

        @Override
        public Void visitMethod(MethodTree tree, Void none) {
            Check.due("rule 11: lines of " + tree.getName(), lineOf(tree, true) - lineOf(tree, false) < MOST_LINES, true);
            Check.due("rule 11: parameters of " + tree.getName(), tree.getParameters().size() <= MOST_PARAMETERS, true);
            inside = name((ExecutableElement) trees.getElement(getCurrentPath()));
            making = tree.getReturnType() == null;
            calls.put(inside, new LinkedHashSet<>());
            super.visitMethod(tree, none);
            inside = "";
            return null;
        }

        @Override
        public Void visitVariable(VariableTree tree, Void none) {
            Set<Modifier> flags = tree.getModifiers().getFlags();
            if (flags.contains(Modifier.STATIC)) {
                String type = trees.getTypeMirror(new TreePath(getCurrentPath(), tree.getType())).toString();
                if (!flags.contains(Modifier.FINAL) || !CONSTANTS.contains(type)) {
                    banned(tree, "rule 5");
                }
            }
            return super.visitVariable(tree, none);
        }

        @Override
        public Void visitMethodInvocation(MethodInvocationTree tree, Void none) {
            called((ExecutableElement) trees.getElement(getCurrentPath()), tree);
            return super.visitMethodInvocation(tree, none);
        }

        @Override
        public Void visitNewClass(NewClassTree tree, Void none) {
            Element made = trees.getElement(getCurrentPath());
            if (tree.getClassBody() != null) {
                banned(tree, "an anonymous class");
            } else if (!EXCEPTIONS.contains(tree.getIdentifier().toString())) {
                makes(tree);
                called((ExecutableElement) made, tree);
            }
            return super.visitNewClass(tree, none);
        }

        @Override
        public Void visitNewArray(NewArrayTree tree, Void none) {
            makes(tree);
            return super.visitNewArray(tree, none);
        }

        @Override
        public Void visitThrow(ThrowTree tree, Void none) {
            boolean right = !making && tree.getExpression() instanceof NewClassTree made
                && EXCEPTIONS.contains(made.getIdentifier().toString())
                && made.getArguments().stream().allMatch(text -> text instanceof LiteralTree) && made.getArguments().size() <= 1;
            if (!right) {
                banned(tree, "rule 6");
            }
            return super.visitThrow(tree, none);
        }

        @Override
        public Void visitTry(TryTree tree, Void none) {
            // The class has no use for it, and what the machine throws may not be caught.
            banned(tree, "rule 6");
            return super.visitTry(tree, none);
        }

        @Override
        public Void visitCatch(CatchTree tree, Void none) {
            banned(tree, "rule 6");
            return super.visitCatch(tree, none);
        }

        @Override
        public Void visitLambdaExpression(LambdaExpressionTree tree, Void none) {
            banned(tree, "rule 2");
            return super.visitLambdaExpression(tree, none);
        }

        @Override
        public Void visitMemberReference(MemberReferenceTree tree, Void none) {
            banned(tree, "rule 2");
            return super.visitMemberReference(tree, none);
        }

        @Override
        public Void visitSynchronized(SynchronizedTree tree, Void none) {
            banned(tree, "rule 6");
            return super.visitSynchronized(tree, none);
        }

        @Override
        public Void visitAssert(AssertTree tree, Void none) {
            banned(tree, "rule 6");
            return super.visitAssert(tree, none);
        }

        @Override
        public Void visitTypeCast(TypeCastTree tree, Void none) {
            if (!trees.getTypeMirror(getCurrentPath()).getKind().isPrimitive()) {
                banned(tree, "rule 6");
            }
            return super.visitTypeCast(tree, none);
        }

        @Override
        public Void visitWhileLoop(WhileLoopTree tree, Void none) {
            bounded(tree.getCondition(), tree);
            return super.visitWhileLoop(tree, none);
        }

        @Override
        public Void visitForLoop(ForLoopTree tree, Void none) {
            bounded(tree.getCondition(), tree);
            return super.visitForLoop(tree, none);
        }

        @Override
        public Void visitDoWhileLoop(DoWhileLoopTree tree, Void none) {
            bounded(tree.getCondition(), tree);
            return super.visitDoWhileLoop(tree, none);
        }

        @Override
        public Void visitLiteral(LiteralTree tree, Void none) {
            if (tree.getValue() instanceof String text && !text.chars().allMatch(sign -> sign >= 1 && sign <= 127)) {
                banned(tree, "rule 4");
            }
            return super.visitLiteral(tree, none);
        }

        @Override
        public Void visitBinary(BinaryTree tree, Void none) {
            Tree.Kind kind = tree.getKind();
            if (kind == Tree.Kind.DIVIDE || kind == Tree.Kind.REMAINDER) {
                divides(tree.getRightOperand());
            }
            boolean texts = isText(tree.getLeftOperand()) || isText(tree.getRightOperand());
            if (texts) {
                banned(tree, "rules 6 and 10");
            }
            return super.visitBinary(tree, none);
        }

        @Override
        public Void visitCompoundAssignment(CompoundAssignmentTree tree, Void none) {
            Tree.Kind kind = tree.getKind();
            if (kind == Tree.Kind.DIVIDE_ASSIGNMENT || kind == Tree.Kind.REMAINDER_ASSIGNMENT) {
                divides(tree.getExpression());
            }
            return super.visitCompoundAssignment(tree, none);
        }

        @Override
        public Void visitAssignment(AssignmentTree tree, Void none) {
            Element set = trees.getElement(new TreePath(getCurrentPath(), tree.getVariable()));
            if (set != null && set.getKind() == ElementKind.FIELD && set.getModifiers().contains(Modifier.STATIC)) {
                banned(tree, "rule 5");
            }
            return super.visitAssignment(tree, none);
        }

        /** Rule 12: all calls of a run share one room, so that rows are made in constructors, and by calls a law alone. */
        private void makes(Tree tree) {
            if (!inside.isEmpty() && !making && !inside.equals(MAKER)) {
                banned(tree, "rule 12");
            }
        }

        /** Rule 9: a counter is held against a bound. */
        private void bounded(ExpressionTree condition, Tree loop) {
            if (condition == null || !condition.toString().matches(".*[<>]=? .*")) {
                banned(loop, "rule 9");
            }
        }

        /** Rule 7: a divisor that is a constant needs no look, and the class has no other. */
        private void divides(ExpressionTree by) {
            Element constant = trees.getElement(new TreePath(getCurrentPath(), by));
            boolean fixed = by instanceof LiteralTree number && !"0".equals(String.valueOf(number.getValue()))
                || constant instanceof javax.lang.model.element.VariableElement field && field.getConstantValue() != null
                    && !field.getConstantValue().equals(0);
            if (!fixed) {
                banned(by, "rule 7");
            }
        }

        private boolean isText(ExpressionTree part) {
            return trees.getTypeMirror(new TreePath(getCurrentPath(), part)).toString().equals("java.lang.String");
        }

        private void called(ExecutableElement method, Tree at) {
            String name = name(method);
            boolean own = name.startsWith("PainBank");
            if (COPIERS.contains(name)) {
                makes(at);
            }
            if (!own && !LIBRARY.contains(name)) {
                banned(at, "rule 4, " + name);
            }
            // A class's constructor calls that of Object, which nobody wrote.
            if (!inside.isEmpty() && !name.equals("java.lang.Object.<init>")) {
                calls.get(inside).add(name);
            }
        }

        private String name(ExecutableElement method) {
            Element owner = method.getEnclosingElement();
            String of = owner.asType().getKind() == TypeKind.DECLARED ? owner.asType().toString() : "Array";
            if (!of.startsWith("PainBank")) {
                return of + "." + method.getSimpleName();
            }
            return of + "." + method.getSimpleName() + "(" + method.getParameters() + ")";
        }
    }
}
