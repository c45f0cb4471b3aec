import com.sun.source.tree.AssertTree;
import com.sun.source.tree.BinaryTree;
import com.sun.source.tree.BlockTree;
import com.sun.source.tree.ClassTree;
import com.sun.source.tree.CompilationUnitTree;
import com.sun.source.tree.CompoundAssignmentTree;
import com.sun.source.tree.DoWhileLoopTree;
import com.sun.source.tree.ExpressionStatementTree;
import com.sun.source.tree.ExpressionTree;
import com.sun.source.tree.ForLoopTree;
import com.sun.source.tree.LambdaExpressionTree;
import com.sun.source.tree.LiteralTree;
import com.sun.source.tree.MemberReferenceTree;
import com.sun.source.tree.MethodInvocationTree;
import com.sun.source.tree.MethodTree;
import com.sun.source.tree.NewArrayTree;
import com.sun.source.tree.NewClassTree;
import com.sun.source.tree.SynchronizedTree;
import com.sun.source.tree.ThrowTree;
import com.sun.source.tree.Tree;
import com.sun.source.tree.TryTree;
import com.sun.source.tree.TypeCastTree;
import com.sun.source.tree.UnaryTree;
import com.sun.source.tree.VariableTree;
import com.sun.source.tree.WhileLoopTree;
import com.sun.source.util.JavacTask;
import com.sun.source.util.TreePath;
import com.sun.source.util.TreePathScanner;
import com.sun.source.util.Trees;
import java.io.IOException;
import java.nio.charset.StandardCharsets;
import java.nio.file.Files;
import java.nio.file.Path;
import java.util.List;
import java.util.Map;
import java.util.Set;
import java.util.TreeMap;
import java.util.TreeSet;
import javax.lang.model.element.Element;
import javax.lang.model.element.Modifier;
import javax.lang.model.type.ArrayType;
import javax.lang.model.type.TypeKind;
import javax.lang.model.type.TypeMirror;
import javax.tools.JavaCompiler;
import javax.tools.StandardJavaFileManager;
import javax.tools.ToolProvider;

/**
 * The rules of LANGUAGE.md that can be read off the class's source, by the compiler's own trees.
 * Where the class needs less than a rule leaves (no object after the constructor, no double),
 * the narrower rule is the one that is held.
 */
public final class LanguageTest {
    private static final Path SOURCE = Path.of("src/main/java/EliminateLoci.java");
    private static final String FACE = "EliminateLoci";
    private static final int MOST_PARAMETERS = 7, MOST_LINES = 60, MOST_DEPTH = 8, MOST_CLASSES = 12, MOST_FIELDS = 20;
    private static final Set<String> LIBRARY = Set.of("java.lang.System.arraycopy", "java.util.Arrays.fill",
            "java.lang.Math.min", "java.lang.Math.max", "java.lang.Math.abs", "java.lang.Integer.bitCount");
    private static final Set<TypeKind> NUMBERS = Set.of(TypeKind.INT, TypeKind.LONG, TypeKind.BOOLEAN);
    private static int wrong = 0;

    public static void main(String[] args) throws IOException {
        JavaCompiler compiler = ToolProvider.getSystemJavaCompiler();
        try (StandardJavaFileManager files = compiler.getStandardFileManager(null, null, StandardCharsets.UTF_8)) {
            JavacTask task = (JavacTask) compiler.getTask(null, files, null, List.of("-proc:none"), null,
                    files.getJavaFileObjects(SOURCE));
            CompilationUnitTree unit = task.parse().iterator().next();
            task.analyze();
            Reader reader = new Reader(Trees.instance(task), unit);
            reader.scan(unit, null);
            reader.finish();
        }
        checkCharacters();
        System.out.println(wrong == 0 ? "the language is kept to" : wrong + " places do not keep to the language");
        if (wrong != 0) {
            System.exit(1);
        }
    }

    private static void expect(boolean holds, int rule, String what) {
        if (!holds) {
            wrong++;
            System.out.println("rule " + rule + ", not so: " + what);
        }
    }

    private static void checkCharacters() throws IOException {
        String source = Files.readString(SOURCE, StandardCharsets.UTF_8);
        expect(source.chars().allMatch(c -> c < 256), 3, "the source has characters 0 to 255 alone");
        expect(!source.startsWith("package") && !source.contains("\npackage"), 1, "there is no package line");
    }

    /** Reads the source once; which method calls which is looked at when all is read. */
    private static final class Reader extends TreePathScanner<Void, Void> {
        private final Trees trees;
        private final CompilationUnitTree unit;
        private final Map<String, Set<String>> calls = new TreeMap<>();
        private final Set<String> openMethods = new TreeSet<>();
        private final Set<String> closedMethods = new TreeSet<>();
        private int classes = 0;

        Reader(Trees trees, CompilationUnitTree unit) {
            this.trees = trees;
            this.unit = unit;
        }

        void finish() {
            expect(classes <= MOST_CLASSES, 11, "at most some twelve classes, not " + classes);
            for (String method : calls.keySet()) {
                int depth = depthOf(method, new TreeSet<>());
                expect(depth <= MOST_DEPTH, 11, "calls from " + method + " go at most eight deep, not " + depth);
            }
            closedMethods.retainAll(openMethods);
            expect(closedMethods.isEmpty(), 1, "no private method bears a public one's name: " + closedMethods);
        }

        private int depthOf(String method, Set<String> standing) {
            if (!standing.add(method)) {
                expect(false, 8, method + " does not call itself");
                return 0;
            }
            int most = 0;
            for (String called : calls.getOrDefault(method, Set.of())) {
                most = Math.max(most, depthOf(called, standing));
            }
            standing.remove(method);
            return most + 1;
        }

        private String place(Tree tree) {
            long line = unit.getLineMap().getLineNumber(trees.getSourcePositions().getStartPosition(unit, tree));
            return "line " + line + " (" + tree.toString().lines().findFirst().orElse("") + ")";
        }

        private MethodTree method() {
            for (TreePath path = getCurrentPath(); path != null; path = path.getParentPath()) {
                if (path.getLeaf() instanceof MethodTree method) {
                    return method;
                }
            }
            return null;
        }

        private String nameOf(Element method) {
            return method.getEnclosingElement() + "." + method;
        }

        // ---- 1, 2, 11: classes and methods

        @Override
        public Void visitClass(ClassTree tree, Void none) {
            classes++;
            Element element = trees.getElement(getCurrentPath());
            boolean outer = getCurrentPath().getParentPath().getLeaf() == unit;
            boolean inside = getCurrentPath().getParentPath().getLeaf() instanceof ClassTree;
            expect(outer || inside, 2, "no local or anonymous class: " + place(tree));
            expect(outer || element.getModifiers().contains(Modifier.STATIC), 2, "static: " + place(tree));
            expect(outer || !element.getModifiers().contains(Modifier.PUBLIC), 1, "not public: " + place(tree));
            int fields = 0;
            for (Tree member : tree.getMembers()) {
                boolean field = member instanceof VariableTree v && !v.getModifiers().getFlags().contains(Modifier.STATIC);
                fields += field ? 1 : 0;
                expect(!(member instanceof BlockTree block) || !block.isStatic(), 5, "no static block: " + place(member));
            }
            expect(fields <= MOST_FIELDS, 11, "some twenty fields: " + tree.getSimpleName());
            return super.visitClass(tree, none);
        }

        @Override
        public Void visitMethod(MethodTree tree, Void none) {
            Element element = trees.getElement(getCurrentPath());
            calls.computeIfAbsent(nameOf(element), k -> new TreeSet<>());
            Set<Modifier> flags = tree.getModifiers().getFlags();
            (flags.contains(Modifier.PUBLIC) ? openMethods : closedMethods).add(tree.getName() + "");
            openMethods.remove("<init>");
            String name = tree.getName() + "";
            expect(tree.getParameters().size() <= MOST_PARAMETERS, 11, "at most seven parameters: " + name);
            expect(tree.toString().lines().count() <= MOST_LINES + 2, 11, "a short method: " + name);
            expect(!flags.contains(Modifier.SYNCHRONIZED), 6, "not synchronized: " + name);
            expect(!Set.of("equals", "hashCode", "toString").contains(name), 6, "none of its own: " + name);
            expect(tree.getThrows().isEmpty(), 6, "throws nothing: " + name);
            return super.visitMethod(tree, none);
        }

        // ---- 3, 5: types and fields

        @Override
        public Void visitVariable(VariableTree tree, Void none) {
            Element element = trees.getElement(getCurrentPath());
            expect(isAllowed(element.asType()), 3, "a type that the rules leave: " + place(tree));
            if (element.getModifiers().contains(Modifier.STATIC)) {
                expect(element.getModifiers().contains(Modifier.FINAL), 5, "a static field is final: " + place(tree));
                expect(NUMBERS.contains(element.asType().getKind()), 5, "a static field is a number: " + place(tree));
            }
            return super.visitVariable(tree, none);
        }

        private boolean isAllowed(TypeMirror type) {
            if (type instanceof ArrayType array) {
                TypeMirror part = array.getComponentType();
                boolean rowOfNumbers = part instanceof ArrayType row && NUMBERS.contains(row.getComponentType().getKind());
                return rowOfNumbers || !(part instanceof ArrayType) && isAllowed(part);
            }
            return NUMBERS.contains(type.getKind()) || type.toString().startsWith(FACE + ".");
        }

        // ---- 4, 8: calls

        @Override
        public Void visitMethodInvocation(MethodInvocationTree tree, Void none) {
            Element called = trees.getElement(new TreePath(getCurrentPath(), tree.getMethodSelect()));
            String owner = called.getEnclosingElement() + "";
            boolean own = owner.equals(FACE) || owner.startsWith(FACE + ".");
            String name = owner + "." + called.getSimpleName();
            boolean constructor = called.getSimpleName().contentEquals("<init>");
            expect(own || constructor || LIBRARY.contains(name), 4, "a call that the rules leave: " + name);
            MethodTree from = method();
            if (from != null && !constructor) {
                String caller = nameOf(trees.getElement(trees.getPath(unit, from)));
                calls.computeIfAbsent(caller, k -> new TreeSet<>()).add(own ? nameOf(called) : name);
            }
            return super.visitMethodInvocation(tree, none);
        }

        // ---- 12: what is made

        @Override
        public Void visitNewClass(NewClassTree tree, Void none) {
            expect(tree.getClassBody() == null, 2, "no anonymous class: " + place(tree));
            expect(isInConstructor(), 12, "made with the object: " + place(tree));
            return super.visitNewClass(tree, none);
        }

        @Override
        public Void visitNewArray(NewArrayTree tree, Void none) {
            expect(isInConstructor(), 12, "made with the object: " + place(tree));
            for (ExpressionTree length : tree.getDimensions()) {
                expect(!length.toString().matches(".*[a-z].*"), 7, "a length that is a constant: " + place(tree));
            }
            return super.visitNewArray(tree, none);
        }

        private boolean isInConstructor() {
            MethodTree method = method();
            return method == null || method.getReturnType() == null;
        }

        // ---- 7: divisors are looked at before

        @Override
        public Void visitBinary(BinaryTree tree, Void none) {
            if (tree.getKind() == Tree.Kind.DIVIDE || tree.getKind() == Tree.Kind.REMAINDER) {
                checkDivisor(tree, tree.getRightOperand());
            }
            return super.visitBinary(tree, none);
        }

        @Override
        public Void visitCompoundAssignment(CompoundAssignmentTree tree, Void none) {
            if (tree.getKind() == Tree.Kind.DIVIDE_ASSIGNMENT || tree.getKind() == Tree.Kind.REMAINDER_ASSIGNMENT) {
                checkDivisor(tree, tree.getExpression());
            }
            return super.visitCompoundAssignment(tree, none);
        }

        private void checkDivisor(Tree tree, ExpressionTree divisor) {
            if (divisor instanceof LiteralTree literal) {
                expect(!"0".equals(literal + ""), 7, "no division by 0: " + place(tree));
                return;
            }
            long at = trees.getSourcePositions().getStartPosition(unit, tree);
            boolean[] tested = {false};
            new TreePathScanner<Void, Void>() {
                @Override
                public Void visitBinary(BinaryTree test, Void none) {
                    boolean comparison = Set.of("== 0", "!= 0", "< 1").contains(
                            test.toString().replace(divisor + " ", ""));
                    boolean before = trees.getSourcePositions().getStartPosition(unit, test) < at;
                    tested[0] |= comparison && before;
                    return super.visitBinary(test, none);
                }
            }.scan(trees.getPath(unit, method()), null);
            expect(tested[0], 7, "a divisor is tested before: " + place(tree));
        }

        // ---- 9: loops

        @Override
        public Void visitForLoop(ForLoopTree tree, Void none) {
            boolean counts = false;
            for (ExpressionStatementTree update : tree.getUpdate()) {
                counts |= counterIsTested(update.getExpression(), tree.getCondition());
            }
            expect(counts, 9, "a counter against a bound: " + place(tree));
            return super.visitForLoop(tree, none);
        }

        @Override
        public Void visitWhileLoop(WhileLoopTree tree, Void none) {
            boolean[] counts = {false};
            new TreePathScanner<Void, Void>() {
                @Override
                public Void visitUnary(UnaryTree step, Void nothing) {
                    counts[0] |= counterIsTested(step, tree.getCondition());
                    return super.visitUnary(step, nothing);
                }
            }.scan(new TreePath(getCurrentPath(), tree.getStatement()), null);
            expect(counts[0], 9, "a counter against a bound: " + place(tree));
            return super.visitWhileLoop(tree, none);
        }

        private static boolean counterIsTested(ExpressionTree step, ExpressionTree condition) {
            if (!(step instanceof UnaryTree unary) || condition == null) {
                return false;
            }
            boolean up = Set.of(Tree.Kind.POSTFIX_INCREMENT, Tree.Kind.PREFIX_INCREMENT).contains(step.getKind());
            boolean down = Set.of(Tree.Kind.POSTFIX_DECREMENT, Tree.Kind.PREFIX_DECREMENT).contains(step.getKind());
            String bound = "(?s).*\\b" + unary.getExpression() + (up ? " <=? .*" : " >=? .*");
            return (up || down) && condition.toString().matches(bound);
        }

        @Override
        public Void visitDoWhileLoop(DoWhileLoopTree tree, Void none) {
            expect(false, 9, "no do, which this class has no need of: " + place(tree));
            return super.visitDoWhileLoop(tree, none);
        }

        // ---- 2, 6: what the rules leave out

        @Override
        public Void visitTypeCast(TypeCastTree tree, Void none) {
            expect(Set.of("int", "long").contains(tree.getType() + ""), 6, "a cast among numbers: " + place(tree));
            return super.visitTypeCast(tree, none);
        }

        @Override
        public Void visitThrow(ThrowTree tree, Void none) {
            return leftOut(6, tree);
        }

        @Override
        public Void visitTry(TryTree tree, Void none) {
            return leftOut(6, tree);
        }

        @Override
        public Void visitSynchronized(SynchronizedTree tree, Void none) {
            return leftOut(6, tree);
        }

        @Override
        public Void visitAssert(AssertTree tree, Void none) {
            return leftOut(6, tree);
        }

        @Override
        public Void visitLambdaExpression(LambdaExpressionTree tree, Void none) {
            return leftOut(2, tree);
        }

        @Override
        public Void visitMemberReference(MemberReferenceTree tree, Void none) {
            return leftOut(2, tree);
        }

        private Void leftOut(int rule, Tree tree) {
            expect(false, rule, "left out: " + place(tree));
            return null;
        }
    }
}
