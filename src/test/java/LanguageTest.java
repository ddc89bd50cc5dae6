import com.sun.source.tree.AssertTree;
import com.sun.source.tree.BinaryTree;
import com.sun.source.tree.BlockTree;
import com.sun.source.tree.CatchTree;
import com.sun.source.tree.ClassTree;
import com.sun.source.tree.CompilationUnitTree;
import com.sun.source.tree.CompoundAssignmentTree;
import com.sun.source.tree.DoWhileLoopTree;
import com.sun.source.tree.EnhancedForLoopTree;
import com.sun.source.tree.ExpressionTree;
import com.sun.source.tree.ForLoopTree;
import com.sun.source.tree.InstanceOfTree;
import com.sun.source.tree.LambdaExpressionTree;
import com.sun.source.tree.LiteralTree;
import com.sun.source.tree.MemberReferenceTree;
import com.sun.source.tree.MethodInvocationTree;
import com.sun.source.tree.MethodTree;
import com.sun.source.tree.NewArrayTree;
import com.sun.source.tree.NewClassTree;
import com.sun.source.tree.SwitchExpressionTree;
import com.sun.source.tree.SynchronizedTree;
import com.sun.source.tree.ThrowTree;
import com.sun.source.tree.Tree;
import com.sun.source.tree.TryTree;
import com.sun.source.tree.TypeCastTree;
import com.sun.source.tree.VariableTree;
import com.sun.source.tree.WhileLoopTree;
import com.sun.source.util.JavacTask;
import com.sun.source.util.TreePath;
import com.sun.source.util.TreePathScanner;
import com.sun.source.util.Trees;
import java.io.IOException;
import java.nio.file.Path;
import java.util.HashMap;
import java.util.HashSet;
import java.util.List;
import java.util.Map;
import java.util.Set;
import javax.lang.model.element.Element;
import javax.lang.model.element.Modifier;
import javax.lang.model.type.TypeMirror;
import javax.tools.JavaCompiler;
import javax.tools.StandardJavaFileManager;
import javax.tools.ToolProvider;

/**
 * The rules of LANGUAGE.md, by number, as far as the source itself shows them: the compiler's own
 * tree of it is gone through. Whether each index, divisor and reference is tested (rule 7) is shown
 * by the tests that call the class with every argument in every state.
 */
public final class LanguageTest {
    private static final Set<String> NUMBERS = Set.of("int", "long", "short", "byte", "char", "boolean", "double", "float");
    private static final Set<String> CONSTANTS = Set.of("int", "long", "boolean", "char", "java.lang.String");
    private static final Set<String> LIBRARY = Set.of("java.lang.Math.max(int,int)", "java.lang.Math.min(int,int)");

    private static final Check CHECK = new Check("LanguageTest");

    public static void main(String[] args) throws IOException {
        JavaCompiler compiler = ToolProvider.getSystemJavaCompiler();
        try (StandardJavaFileManager files = compiler.getStandardFileManager(null, null, null)) {
            JavacTask task = (JavacTask) compiler.getTask(null, files, null, List.of("--release", "17", "-proc:none"), null,
                files.getJavaFileObjects(Path.of("src/main/java/LivedLinks.java")));
            Iterable<? extends CompilationUnitTree> units = task.parse();
            task.analyze();
            for (CompilationUnitTree unit : units) {
                Rules rules = new Rules(Trees.instance(task), unit);
                rules.scan(unit, null);
                rules.close();
            }
        }
        CHECK.close();
    }

    private static final class Rules extends TreePathScanner<Void, Void> {
        private final Trees trees;
        private final CompilationUnitTree unit;
        private final Map<Element, Set<Element>> calls = new HashMap<>();
        private Element method;
        private int classes;
        private int methods;
        private int loops;

        Rules(Trees trees, CompilationUnitTree unit) {
            this.trees = trees;
            this.unit = unit;
        }

        private void rule(int number, String what, Tree tree, boolean holds) {
            long line = unit.getLineMap().getLineNumber(trees.getSourcePositions().getStartPosition(unit, tree));
            CHECK.holds("rule " + number + ", line " + line + ": " + what, holds);
        }

        private void none(int number, String what, Tree tree) {
            rule(number, what, tree, false);
        }

        private Element element() {
            return trees.getElement(getCurrentPath());
        }

        private TypeMirror type(Tree tree) {
            return trees.getTypeMirror(new TreePath(getCurrentPath(), tree));
        }

        private static boolean isOwn(String type) {
            return type.equals("LivedLinks") || type.startsWith("LivedLinks.");
        }

        private boolean isInClass() {
            return getCurrentPath().getParentPath().getLeaf() instanceof ClassTree;
        }

        void close() {
            CHECK.holds("rule 11: at most twelve classes", classes <= 12);
            CHECK.holds("the methods were gone through", methods > 80 && calls.size() > 60);
            for (Element start : calls.keySet()) {
                int depth = depthBehind(start, new HashSet<>());
                CHECK.holds("rules 8 and 11: calls behind " + start + " go " + depth + " deep", depth <= 8);
            }
        }

        /** How many calls stand open at once, or a great number if a method calls itself. */
        private int depthBehind(Element start, Set<Element> open) {
            if (!open.add(start)) {
                return 1000;
            }
            int deepest = 0;
            for (Element called : calls.getOrDefault(start, Set.of())) {
                deepest = Math.max(deepest, depthBehind(called, open));
            }
            open.remove(start);
            return deepest + 1;
        }

        @Override
        public Void visitCompilationUnit(CompilationUnitTree tree, Void none) {
            CHECK.holds("no package", tree.getPackage() == null);
            CHECK.holds("rule 4: no import", tree.getImports().isEmpty());
            CHECK.due("rule 1: one class in the file", tree.getTypeDecls().size(), 1);
            return super.visitCompilationUnit(tree, none);
        }

        @Override
        public Void visitClass(ClassTree tree, Void none) {
            classes++;
            boolean outside = getCurrentPath().getParentPath().getLeaf() instanceof CompilationUnitTree;
            Set<Modifier> modifiers = tree.getModifiers().getFlags();
            rule(2, "a class inside is a static member", tree, outside || isInClass() && modifiers.contains(Modifier.STATIC));
            rule(12, "no other class can override", tree, modifiers.contains(Modifier.FINAL));
            int fields = 0;
            for (Tree member : tree.getMembers()) {
                rule(5, "no initialiser block", member, !(member instanceof BlockTree));
                if (member instanceof VariableTree && !((VariableTree) member).getModifiers().getFlags().contains(Modifier.STATIC)) {
                    fields++;
                }
            }
            rule(11, "at most twenty fields", tree, fields <= 20);
            return super.visitClass(tree, none);
        }

        @Override
        public Void visitMethod(MethodTree tree, Void none) {
            methods++;
            rule(6, "no throws", tree, tree.getThrows().isEmpty());
            rule(11, "at most seven parameters", tree, tree.getParameters().size() <= 7);
            long begin = unit.getLineMap().getLineNumber(Math.max(0, trees.getSourcePositions().getStartPosition(unit, tree)));
            long end = unit.getLineMap().getLineNumber(Math.max(0, trees.getSourcePositions().getEndPosition(unit, tree)));
            rule(11, "at most sixty lines", tree, end - begin < 60);
            Element outer = method;
            method = element();
            super.visitMethod(tree, none);
            method = outer;
            return null;
        }

        @Override
        public Void visitVariable(VariableTree tree, Void none) {
            String type = element().asType().toString();
            String single = type.replaceFirst("\\[\\]$", "");
            boolean twoOfNumbers = type.endsWith("[][]") && NUMBERS.contains(type.replace("[]", ""));
            rule(3, "a type of the language: " + type, tree, NUMBERS.contains(single) || isOwn(single) || twoOfNumbers
                || type.equals("java.lang.String") || type.equals("java.lang.StringBuilder"));
            Set<Modifier> modifiers = tree.getModifiers().getFlags();
            if (isInClass() && modifiers.contains(Modifier.STATIC)) {
                rule(5, "a constant", tree, modifiers.contains(Modifier.FINAL) && CONSTANTS.contains(type)
                    && tree.getInitializer() != null);
            }
            return super.visitVariable(tree, none);
        }

        @Override
        public Void visitMethodInvocation(MethodInvocationTree tree, Void none) {
            Element called = element();
            String owner = called.getEnclosingElement().toString();
            boolean ofSuper = called.getSimpleName().contentEquals("<init>") && owner.equals("java.lang.Object");
            rule(4, "the library: " + owner + "." + called, tree,
                ofSuper || isOwn(owner) || LIBRARY.contains(owner + "." + called));
            rule(12, "a constructor calls no method that could be overridden: " + called, tree, ofSuper || method == null
                || !method.getSimpleName().contentEquals("<init>") || called.getModifiers().contains(Modifier.STATIC));
            if (!ofSuper && method != null) {
                calls.computeIfAbsent(method, key -> new HashSet<>()).add(called);
            }
            return super.visitMethodInvocation(tree, none);
        }

        @Override
        public Void visitNewClass(NewClassTree tree, Void none) {
            rule(2, "no anonymous class", tree, tree.getClassBody() == null);
            rule(4, "new of the program's own", tree, isOwn(tree.getIdentifier().toString()) || isOwn(type(tree).toString()));
            made(tree);
            return super.visitNewClass(tree, none);
        }

        @Override
        public Void visitNewArray(NewArrayTree tree, Void none) {
            made(tree);
            return super.visitNewArray(tree, none);
        }

        /** What this program makes, it makes in constructors and for fields. */
        private void made(Tree tree) {
            rule(12, "made in a constructor alone", tree, method == null || method.getSimpleName().contentEquals("<init>"));
        }

        private void isText(Tree tree, ExpressionTree... parts) {
            for (ExpressionTree part : parts) {
                TypeMirror type = type(part);
                rule(10, "no joining of texts by +", tree, type == null || !type.toString().equals("java.lang.String"));
            }
        }

        @Override
        public Void visitBinary(BinaryTree tree, Void none) {
            isText(tree, tree.getLeftOperand(), tree.getRightOperand());
            if (tree.getKind() == Tree.Kind.DIVIDE || tree.getKind() == Tree.Kind.REMAINDER) {
                boolean fixed = tree.getRightOperand() instanceof LiteralTree && !tree.getRightOperand().toString().equals("0");
                rule(7, "a divisor that is never 0", tree, fixed);
            }
            return super.visitBinary(tree, none);
        }

        @Override
        public Void visitCompoundAssignment(CompoundAssignmentTree tree, Void none) {
            isText(tree, tree.getVariable(), tree.getExpression());
            rule(7, "a divisor that is never 0", tree, tree.getKind() != Tree.Kind.DIVIDE_ASSIGNMENT
                && tree.getKind() != Tree.Kind.REMAINDER_ASSIGNMENT);
            return super.visitCompoundAssignment(tree, none);
        }

        private void bounded(Tree tree, ExpressionTree condition) {
            loops++;
            boolean bound = condition != null && condition.toString().contains("<") || condition != null
                && condition.toString().contains(">");
            rule(9, "a loop with a bound (the " + loops + "th)", tree, bound);
        }

        @Override
        public Void visitForLoop(ForLoopTree tree, Void none) {
            bounded(tree, tree.getCondition());
            return super.visitForLoop(tree, none);
        }

        @Override
        public Void visitWhileLoop(WhileLoopTree tree, Void none) {
            bounded(tree, tree.getCondition());
            return super.visitWhileLoop(tree, none);
        }

        @Override
        public Void visitDoWhileLoop(DoWhileLoopTree tree, Void none) {
            bounded(tree, tree.getCondition());
            return super.visitDoWhileLoop(tree, none);
        }

        @Override
        public Void visitEnhancedForLoop(EnhancedForLoopTree tree, Void none) {
            rule(12, "a loop over an array makes no iterator", tree, type(tree.getExpression()).toString().endsWith("[]"));
            return super.visitEnhancedForLoop(tree, none);
        }

        @Override
        public Void visitLambdaExpression(LambdaExpressionTree tree, Void none) {
            none(2, "a lambda", tree);
            return null;
        }

        @Override
        public Void visitMemberReference(MemberReferenceTree tree, Void none) {
            none(2, "a method reference", tree);
            return null;
        }

        @Override
        public Void visitThrow(ThrowTree tree, Void none) {
            none(6, "throw", tree);
            return null;
        }

        @Override
        public Void visitTry(TryTree tree, Void none) {
            none(6, "try", tree);
            return null;
        }

        @Override
        public Void visitCatch(CatchTree tree, Void none) {
            none(6, "catch", tree);
            return null;
        }

        @Override
        public Void visitSynchronized(SynchronizedTree tree, Void none) {
            none(6, "synchronized", tree);
            return null;
        }

        @Override
        public Void visitAssert(AssertTree tree, Void none) {
            none(6, "assert", tree);
            return null;
        }

        @Override
        public Void visitSwitchExpression(SwitchExpressionTree tree, Void none) {
            none(6, "a switch of another form", tree);
            return null;
        }

        @Override
        public Void visitInstanceOf(InstanceOfTree tree, Void none) {
            none(6, "a test of a class, which this program does not need", tree);
            return null;
        }

        @Override
        public Void visitTypeCast(TypeCastTree tree, Void none) {
            rule(6, "a cast between numbers", tree, NUMBERS.contains(tree.getType().toString()));
            return super.visitTypeCast(tree, none);
        }
    }
}
