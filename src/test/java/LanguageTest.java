import com.sun.source.tree.AssertTree;
import com.sun.source.tree.BinaryTree;
import com.sun.source.tree.BlockTree;
import com.sun.source.tree.ClassTree;
import com.sun.source.tree.CompilationUnitTree;
import com.sun.source.tree.CompoundAssignmentTree;
import com.sun.source.tree.DoWhileLoopTree;
import com.sun.source.tree.ExpressionTree;
import com.sun.source.tree.ForLoopTree;
import com.sun.source.tree.IdentifierTree;
import com.sun.source.tree.LambdaExpressionTree;
import com.sun.source.tree.LineMap;
import com.sun.source.tree.LiteralTree;
import com.sun.source.tree.MemberReferenceTree;
import com.sun.source.tree.MethodInvocationTree;
import com.sun.source.tree.MethodTree;
import com.sun.source.tree.NewArrayTree;
import com.sun.source.tree.NewClassTree;
import com.sun.source.tree.SynchronizedTree;
import com.sun.source.tree.ThrowTree;
import com.sun.source.tree.Tree;
import com.sun.source.tree.TryTree;
import com.sun.source.tree.TypeCastTree;
import com.sun.source.tree.VariableTree;
import com.sun.source.tree.WhileLoopTree;
import com.sun.source.util.JavacTask;
import com.sun.source.util.TreePath;
import com.sun.source.util.TreePathScanner;
import com.sun.source.util.Trees;
import java.nio.file.Path;
import java.util.List;
import java.util.Map;
import java.util.Set;
import java.util.TreeMap;
import java.util.TreeSet;
import javax.lang.model.element.Element;
import javax.lang.model.element.ElementKind;
import javax.lang.model.element.ExecutableElement;
import javax.lang.model.element.Modifier;
import javax.lang.model.element.VariableElement;
import javax.lang.model.type.TypeMirror;
import javax.tools.JavaCompiler;
import javax.tools.StandardJavaFileManager;
import javax.tools.ToolProvider;

/**
 * The rules of LANGUAGE.md that can be read off the file, by their numbers. Where the class uses less than a rule
 * leaves it, the test asks for that less. Of rule 7 it reads the divisors alone: indexes and the ends of loops are
 * left to the other tests and to readers.
 */
public final class LanguageTest {
    private static final Path FILE = Path.of("src/main/java/SealTrust.java");
    private static final Set<String> EXCEPTIONS = Set.of("IllegalStateException", "IllegalArgumentException",
            "IndexOutOfBoundsException", "ArithmeticException", "UnsupportedOperationException",
            "NoSuchElementException", "RuntimeException");
    private static final Set<String> TYPES = Set.of("int", "long", "boolean", "int[]", "long[]", "void");
    private static final Set<String> LIBRARY = Set.of("java.lang.Integer", "java.lang.Long", "java.lang.Math");
    private static final Set<Tree.Kind> DIVIDING = Set.of(Tree.Kind.DIVIDE, Tree.Kind.REMAINDER,
            Tree.Kind.DIVIDE_ASSIGNMENT, Tree.Kind.REMAINDER_ASSIGNMENT);
    private static final int MOST_LINES = 60;
    private static final int MOST_DEEP = 8;

    private static final Map<String, Set<String>> CALLS = new TreeMap<>();
    private static final Map<String, Set<String>> THROWN = new TreeMap<>();
    private static final Map<String, Set<String>> DECLARED = new TreeMap<>();
    private static final Map<String, Integer> CLASSES = new TreeMap<>();

    public static void main(String[] args) throws Exception {
        JavaCompiler compiler = ToolProvider.getSystemJavaCompiler();
        try (StandardJavaFileManager files = compiler.getStandardFileManager(null, null, null)) {
            JavacTask task = (JavacTask) compiler.getTask(null, files, null, List.of("--release", "17"), null,
                    files.getJavaFileObjects(FILE));
            CompilationUnitTree unit = task.parse().iterator().next();
            task.analyze();
            Check.due("the file has no package line", unit.getPackageName() == null, true);
            Check.due("imports", unit.getImports().toString().strip(), "import java.util.NoSuchElementException;");
            Check.due("classes of the file", unit.getTypeDecls().size(), 1);
            new Reader(Trees.instance(task), unit).scan(unit, null);
        }
        counts();
        thrown();
        Check.end("LanguageTest");
    }

    private static void counts() {
        Check.due("11 at most twelve classes", CLASSES.size() >= 1 && CLASSES.size() <= 12, true);
        CLASSES.forEach((name, fields) -> Check.due("11 at most twenty fields in " + name, fields <= 20, true));
        for (String method : CALLS.keySet()) {
            int deep = depth(method, 0);
            Check.due("8, 11 calls go at most eight deep from " + method, deep <= MOST_DEEP, true);
        }
    }

    /** Recursion would go on, so it ends as too deep. */
    private static int depth(String method, int before) {
        int deepest = 1;
        for (String called : CALLS.getOrDefault(method, Set.of())) {
            deepest = before > MOST_DEEP ? deepest : Math.max(deepest, 1 + depth(called, before + 1));
        }
        return deepest;
    }

    /** A call of the face throws what it declares, by itself or by what it calls, and nothing else. */
    private static void thrown() {
        Check.due("6 methods of the face", DECLARED.size(), 17);
        DECLARED.forEach((method, declared) ->
                Check.due("6 what " + method + " throws", thrownBy(method), declared));
    }

    private static Set<String> thrownBy(String method) {
        Set<String> all = new TreeSet<>(THROWN.getOrDefault(method, Set.of()));
        for (String called : CALLS.getOrDefault(method, Set.of())) {
            all.addAll(thrownBy(called));
        }
        return all;
    }

    private static final class Reader extends TreePathScanner<Void, Void> {
        private final Trees trees;
        private final CompilationUnitTree unit;
        private final Set<String> face = new TreeSet<>();
        private final Set<String> hidden = new TreeSet<>();
        private String method = "";
        private boolean making;

        Reader(Trees trees, CompilationUnitTree unit) {
            this.trees = trees;
            this.unit = unit;
        }

        private String at(Tree tree) {
            LineMap lines = unit.getLineMap();
            return " (line " + lines.getLineNumber(trees.getSourcePositions().getStartPosition(unit, tree)) + ")";
        }

        private void refuse(String rule, Tree tree) {
            Check.due(rule + at(tree), "is there", "is not there");
        }

        private Element element() {
            return trees.getElement(getCurrentPath());
        }

        private boolean own(TypeMirror type) {
            String name = type.toString().replace("[]", "");
            return name.equals("SealTrust") || name.startsWith("SealTrust.");
        }

        @Override
        public Void visitCompilationUnit(CompilationUnitTree tree, Void nothing) {
            super.visitCompilationUnit(tree, nothing);
            hidden.retainAll(face);
            Check.due("1 no other method bears the name of a public one", hidden, Set.of());
            return null;
        }

        @Override
        public Void visitClass(ClassTree tree, Void nothing) {
            Set<Modifier> modifiers = element().getModifiers();
            boolean inside = !tree.getSimpleName().contentEquals("SealTrust");
            Check.due("2 a class inside is private and static" + at(tree),
                    !inside || modifiers.contains(Modifier.PRIVATE) && modifiers.contains(Modifier.STATIC), true);
            Check.due("2 no class stands in a method" + at(tree), method, "");
            int fields = 0;
            for (Tree member : tree.getMembers()) {
                boolean field = member instanceof VariableTree;
                fields += field && !((VariableTree) member).getModifiers().getFlags().contains(Modifier.STATIC) ? 1 : 0;
                Check.due("5 no initialiser block" + at(member), member instanceof BlockTree, false);
            }
            CLASSES.put(element().toString(), fields);
            return super.visitClass(tree, nothing);
        }

        @Override
        public Void visitMethod(MethodTree tree, Void nothing) {
            ExecutableElement made = (ExecutableElement) element();
            method = nameOf(made);
            making = tree.getReturnType() == null;
            Check.due("11 at most seven parameters of " + method, tree.getParameters().size() <= 7, true);
            Check.due("11 lines of " + method, lines(tree) <= MOST_LINES, true);
            Check.due("3 the type of " + method, isType(made.getReturnType()), true);
            CALLS.put(method, new TreeSet<>());
            THROWN.put(method, new TreeSet<>());
            if (made.getModifiers().contains(Modifier.PUBLIC)) {
                Set<String> declared = new TreeSet<>();
                made.getThrownTypes().forEach(type -> declared.add(simple(type.toString())));
                DECLARED.put(method, declared);
                face.add(made.getSimpleName().toString());
            } else {
                hidden.add(making ? "" : made.getSimpleName().toString());
            }
            super.visitMethod(tree, nothing);
            method = "";
            making = false;
            return null;
        }

        private long lines(MethodTree tree) {
            long from = trees.getSourcePositions().getStartPosition(unit, tree);
            long to = trees.getSourcePositions().getEndPosition(unit, tree);
            // What the compiler adds by itself stands nowhere.
            return to < 0 ? 0 : unit.getLineMap().getLineNumber(to) - unit.getLineMap().getLineNumber(from) + 1;
        }

        private String nameOf(Element made) {
            return made.getEnclosingElement() + "." + made;
        }

        private String simple(String name) {
            return name.substring(name.lastIndexOf('.') + 1);
        }

        private boolean isType(TypeMirror type) {
            boolean twice = type.toString().contains("[][]");
            return !twice && (TYPES.contains(type.toString()) || own(type));
        }

        @Override
        public Void visitVariable(VariableTree tree, Void nothing) {
            VariableElement made = (VariableElement) element();
            Check.due("3 the type of " + tree.getName() + at(tree), isType(made.asType()), true);
            if (made.getModifiers().contains(Modifier.STATIC)) {
                Check.due("5 a written constant, " + tree.getName(),
                        made.getModifiers().contains(Modifier.FINAL) && made.getConstantValue() != null, true);
            }
            return super.visitVariable(tree, nothing);
        }

        @Override
        public Void visitMethodInvocation(MethodInvocationTree tree, Void nothing) {
            ExecutableElement called = (ExecutableElement) element();
            String owner = called.getEnclosingElement().toString();
            if (own(called.getEnclosingElement().asType())) {
                Check.due("12 a constructor calls " + called + at(tree), making, false);
                CALLS.get(method).add(nameOf(called));
            } else if (!called.getSimpleName().contentEquals("<init>")) {
                boolean numbers = called.getParameters().stream().allMatch(p -> TYPES.contains(p.asType().toString()));
                Check.due("4 " + owner + "." + called + " is of the library's listed functions" + at(tree),
                        LIBRARY.contains(owner) && numbers && called.getModifiers().contains(Modifier.STATIC)
                        && !called.getSimpleName().toString().endsWith("Exact"), true);
            }
            if (called.getSimpleName().toString().matches("(floor|ceil|divide|remainder).*")) {
                divides(Tree.Kind.DIVIDE, tree.getArguments().get(1));
            }
            return super.visitMethodInvocation(tree, nothing);
        }

        @Override
        public Void visitNewClass(NewClassTree tree, Void nothing) {
            boolean thrown = getCurrentPath().getParentPath().getLeaf() instanceof ThrowTree;
            Check.due("12 objects are made in constructors, or thrown" + at(tree), making || thrown, true);
            Check.due("2 no anonymous class" + at(tree), tree.getClassBody() == null, true);
            return super.visitNewClass(tree, nothing);
        }

        /** A field's own row is made with its object. */
        @Override
        public Void visitNewArray(NewArrayTree tree, Void nothing) {
            Check.due("12 rows are made in constructors" + at(tree), making || method.isEmpty(), true);
            return super.visitNewArray(tree, nothing);
        }

        @Override
        public Void visitThrow(ThrowTree tree, Void nothing) {
            boolean anew = tree.getExpression() instanceof NewClassTree;
            Check.due("6 what is thrown is new" + at(tree), anew, true);
            if (anew) {
                NewClassTree made = (NewClassTree) tree.getExpression();
                boolean written = made.getArguments().stream().allMatch(a -> a instanceof LiteralTree);
                Check.due("6 its text is written" + at(tree), written && made.getArguments().size() <= 1, true);
                Check.due("6 it is listed" + at(tree), EXCEPTIONS.contains(made.getIdentifier().toString()), true);
                THROWN.get(method).add(made.getIdentifier().toString());
            }
            Check.due("6 no throw in a constructor" + at(tree), making, false);
            return super.visitThrow(tree, nothing);
        }

        @Override
        public Void visitForLoop(ForLoopTree tree, Void nothing) {
            Check.due("9 the loop has a counter and a bound" + at(tree),
                    tree.getCondition() != null && tree.getInitializer().size() == 1 && tree.getUpdate().size() == 1,
                    true);
            return super.visitForLoop(tree, nothing);
        }

        @Override
        public Void visitBinary(BinaryTree tree, Void nothing) {
            String type = trees.getTypeMirror(getCurrentPath()).toString();
            Check.due("10 no texts are joined by +" + at(tree), TYPES.contains(type), true);
            divides(tree.getKind(), tree.getRightOperand());
            return super.visitBinary(tree, nothing);
        }

        @Override
        public Void visitCompoundAssignment(CompoundAssignmentTree tree, Void nothing) {
            divides(tree.getKind(), tree.getExpression());
            return super.visitCompoundAssignment(tree, nothing);
        }

        /** Whether the method has looked at it is for readers; of a field they could not see it. */
        private void divides(Tree.Kind kind, ExpressionTree divisor) {
            boolean divides = DIVIDING.contains(kind);
            boolean field = divisor instanceof IdentifierTree
                    && trees.getElement(new TreePath(getCurrentPath(), divisor)).getKind() == ElementKind.FIELD;
            boolean plain = divisor instanceof LiteralTree || divisor instanceof IdentifierTree && !field;
            Check.due("7 a divisor is written or the method's own" + at(divisor), !divides || plain, true);
        }

        @Override
        public Void visitTypeCast(TypeCastTree tree, Void nothing) {
            Check.due("6 casts are among numbers" + at(tree), TYPES.contains(tree.getType().toString()), true);
            return super.visitTypeCast(tree, nothing);
        }

        @Override
        public Void visitWhileLoop(WhileLoopTree tree, Void nothing) {
            refuse("9 a loop without a counter", tree);
            return super.visitWhileLoop(tree, nothing);
        }

        @Override
        public Void visitDoWhileLoop(DoWhileLoopTree tree, Void nothing) {
            refuse("9 a loop without a counter", tree);
            return super.visitDoWhileLoop(tree, nothing);
        }

        @Override
        public Void visitLambdaExpression(LambdaExpressionTree tree, Void nothing) {
            refuse("2 a lambda", tree);
            return super.visitLambdaExpression(tree, nothing);
        }

        @Override
        public Void visitMemberReference(MemberReferenceTree tree, Void nothing) {
            refuse("2 a method reference", tree);
            return super.visitMemberReference(tree, nothing);
        }

        @Override
        public Void visitTry(TryTree tree, Void nothing) {
            refuse("6 a try", tree);
            return super.visitTry(tree, nothing);
        }

        @Override
        public Void visitSynchronized(SynchronizedTree tree, Void nothing) {
            refuse("6 a synchronized", tree);
            return super.visitSynchronized(tree, nothing);
        }

        @Override
        public Void visitAssert(AssertTree tree, Void nothing) {
            refuse("6 an assert", tree);
            return super.visitAssert(tree, nothing);
        }
    }
}
