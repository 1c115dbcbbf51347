import com.sun.source.tree.BinaryTree;
import com.sun.source.tree.ClassTree;
import com.sun.source.tree.CompilationUnitTree;
import com.sun.source.tree.ExpressionTree;
import com.sun.source.tree.IdentifierTree;
import com.sun.source.tree.LiteralTree;
import com.sun.source.tree.MemberSelectTree;
import com.sun.source.tree.MethodInvocationTree;
import com.sun.source.tree.MethodTree;
import com.sun.source.tree.NewArrayTree;
import com.sun.source.tree.NewClassTree;
import com.sun.source.tree.ThrowTree;
import com.sun.source.tree.Tree;
import com.sun.source.tree.TypeCastTree;
import com.sun.source.tree.VariableTree;
import com.sun.source.util.JavacTask;
import com.sun.source.util.TreePathScanner;
import com.sun.source.util.Trees;
import java.io.IOException;
import java.nio.file.Path;
import java.util.EnumSet;
import java.util.HashMap;
import java.util.LinkedHashSet;
import java.util.List;
import java.util.Map;
import java.util.Set;
import java.util.TreeSet;
import javax.lang.model.element.Element;
import javax.lang.model.element.ElementKind;
import javax.lang.model.element.Modifier;
import javax.tools.JavaCompiler;
import javax.tools.StandardJavaFileManager;
import javax.tools.ToolProvider;

/**
 * The rules of LANGUAGE.md that the source can be asked for with the compiler's own trees. It is stricter than they
 * are where the program needs less: no recursion, no try, no objects but exceptions outside constructors.
 */
public final class LanguageTest {
    private static final Set<String> EXCEPTIONS = Set.of("IllegalStateException", "IllegalArgumentException",
        "IndexOutOfBoundsException", "ArithmeticException", "UnsupportedOperationException", "NoSuchElementException",
        "RuntimeException");
    private static final Set<String> LIBRARY = Set.of("java.lang.Math.min", "java.lang.Math.max",
        "java.lang.Integer.bitCount", "java.lang.System.arraycopy");
    private static final Set<String> TYPES = Set.of("int", "long", "char", "boolean", "double", "int[]", "long[]",
        "char[]");
    private static final Set<Tree.Kind> RULED_OUT = EnumSet.of(Tree.Kind.LAMBDA_EXPRESSION, Tree.Kind.MEMBER_REFERENCE,
        Tree.Kind.TRY, Tree.Kind.SYNCHRONIZED, Tree.Kind.ASSERT, Tree.Kind.INSTANCE_OF, Tree.Kind.WHILE_LOOP,
        Tree.Kind.DO_WHILE_LOOP, Tree.Kind.SWITCH_EXPRESSION, Tree.Kind.ANNOTATION);
    private static final int MOST_LINES = 60;
    private static final int DEEPEST = 8;

    private final Trees trees;
    private final CompilationUnitTree unit;
    private final Set<String> ownTypes = new TreeSet<>();
    private final Map<Element, Set<Element>> calls = new HashMap<>();

    private LanguageTest(Trees trees, CompilationUnitTree unit) {
        this.trees = trees;
        this.unit = unit;
    }

    public static void main(String[] args) throws IOException {
        JavaCompiler compiler = ToolProvider.getSystemJavaCompiler();
        try (StandardJavaFileManager files = compiler.getStandardFileManager(null, null, null)) {
            JavacTask task = (JavacTask) compiler.getTask(null, files, null, List.of("-proc:none"), null,
                files.getJavaFileObjects(Path.of("src/main/java/BindingPlanner.java")));
            CompilationUnitTree unit = task.parse().iterator().next();
            task.analyze();
            new LanguageTest(Trees.instance(task), unit).check();
        }
        Checks.finish();
    }

    private void check() {
        Checks.is("types at the top", 1, unit.getTypeDecls().size());
        Checks.same("package", true, unit.getPackage() == null);
        new Scanner().scan(unit, null);
        Checks.same("classes of the file", true, ownTypes.size() <= 12);
        for (Element method : calls.keySet()) {
            int depth = depthOf(method, 1);
            Checks.same("calls below " + method + " go " + depth + " deep", true, depth <= DEEPEST);
        }
    }

    /** How many calls stand open at most; a recursion stops far below. */
    private int depthOf(Element method, int depth) {
        if (depth > 2 * DEEPEST) {
            return depth;
        }
        int deepest = depth;
        for (Element called : calls.getOrDefault(method, Set.of())) {
            deepest = Math.max(deepest, depthOf(called, depth + 1));
        }
        return deepest;
    }

    private final class Scanner extends TreePathScanner<Void, Void> {
        private MethodTree method = null;

        private void rule(String rule, Tree tree, boolean isKept) {
            long line = unit.getLineMap().getLineNumber(trees.getSourcePositions().getStartPosition(unit, tree));
            Checks.same("line " + line + ", rule " + rule + ": " + tree.toString().lines().findFirst().orElse(""), true,
                isKept);
        }

        private Element elementOf(Tree tree) {
            return trees.getElement(trees.getPath(unit, tree));
        }

        private String typeOf(ExpressionTree tree) {
            return String.valueOf(trees.getTypeMirror(trees.getPath(unit, tree)));
        }

        @Override
        public Void scan(Tree tree, Void none) {
            if (tree != null && RULED_OUT.contains(tree.getKind())) {
                rule("2, 6 or 9", tree, false);
            }
            return super.scan(tree, none);
        }

        @Override
        public Void visitTypeCast(TypeCastTree tree, Void none) {
            rule("6: no cast that can fail", tree, Set.of("long", "double").contains(tree.getType().toString()));
            return super.visitTypeCast(tree, none);
        }

        @Override
        public Void visitClass(ClassTree tree, Void none) {
            ownTypes.add(tree.getSimpleName().toString());
            boolean isOutermost = getCurrentPath().getParentPath().getLeaf() == unit;
            Set<Modifier> modifiers = tree.getModifiers().getFlags();
            rule("1 and 2", tree, isOutermost || modifiers.contains(Modifier.STATIC)
                && modifiers.contains(Modifier.PRIVATE));
            for (Tree member : tree.getMembers()) {
                rule("5: no initialiser block", member, member.getKind() != Tree.Kind.BLOCK);
            }
            return super.visitClass(tree, none);
        }

        @Override
        public Void visitMethod(MethodTree tree, Void none) {
            method = tree;
            calls.put(elementOf(tree), new LinkedHashSet<>());
            long first = unit.getLineMap().getLineNumber(trees.getSourcePositions().getStartPosition(unit, tree));
            long last = unit.getLineMap().getLineNumber(trees.getSourcePositions().getEndPosition(unit, tree));
            rule("11: lines", tree, last - first < MOST_LINES);
            rule("11: parameters", tree, tree.getParameters().size() <= 7);
            super.visitMethod(tree, none);
            method = null;
            return null;
        }

        @Override
        public Void visitVariable(VariableTree tree, Void none) {
            String type = tree.getType().toString();
            boolean isOwn = elementOf(tree).asType().toString().startsWith("BindingPlanner.");
            rule("3", tree, TYPES.contains(type) || isOwn && !type.contains("[][]"));
            Set<Modifier> modifiers = tree.getModifiers().getFlags();
            if (modifiers.contains(Modifier.STATIC)) {
                rule("5", tree, modifiers.contains(Modifier.FINAL) && isWrittenOut(tree.getInitializer()));
            }
            return super.visitVariable(tree, none);
        }

        private boolean isWrittenOut(ExpressionTree value) {
            if (value instanceof NewArrayTree array) {
                return array.getInitializers() != null
                    && array.getInitializers().stream().allMatch(LiteralTree.class::isInstance);
            }
            boolean isNegative = value.getKind() == Tree.Kind.UNARY_MINUS;
            return isNegative || value instanceof LiteralTree;
        }

        @Override
        public Void visitThrow(ThrowTree tree, Void none) {
            boolean isKept = method != null && method.getReturnType() != null
                && tree.getExpression() instanceof NewClassTree made
                && EXCEPTIONS.contains(made.getIdentifier().toString())
                && (made.getArguments().isEmpty() || made.getArguments().size() == 1
                    && made.getArguments().get(0) instanceof LiteralTree);
            rule("6", tree, isKept);
            return super.visitThrow(tree, none);
        }

        @Override
        public Void visitNewClass(NewClassTree tree, Void none) {
            boolean isInCall = method != null && method.getReturnType() != null;
            boolean isException = EXCEPTIONS.contains(tree.getIdentifier().toString());
            boolean isOwn = elementOf(tree).getEnclosingElement().toString().startsWith("BindingPlanner.");
            rule("12", tree, isInCall ? isException : isOwn);
            return super.visitNewClass(tree, none);
        }

        @Override
        public Void visitNewArray(NewArrayTree tree, Void none) {
            rule("12: rows are made once", tree, method == null);
            return super.visitNewArray(tree, none);
        }

        @Override
        public Void visitMethodInvocation(MethodInvocationTree tree, Void none) {
            Element called = elementOf(tree);
            String owner = called.getEnclosingElement().toString();
            if (called.getKind() == ElementKind.METHOD && !owner.startsWith("BindingPlanner")) {
                rule("4", tree, LIBRARY.contains(owner + "." + called.getSimpleName()));
            } else if (called.getKind() == ElementKind.METHOD) {
                rule("11: called in a method", tree, method != null);
                if (method != null) {
                    calls.get(elementOf(method)).add(called);
                }
            }
            return super.visitMethodInvocation(tree, none);
        }

        @Override
        public Void visitBinary(BinaryTree tree, Void none) {
            rule("10: no texts joined by +", tree, !typeOf(tree).equals("java.lang.String"));
            boolean isSame = tree.getKind() == Tree.Kind.EQUAL_TO || tree.getKind() == Tree.Kind.NOT_EQUAL_TO;
            rule("6: no texts compared by ==", tree, !isSame || !typeOf(tree.getLeftOperand()).startsWith("java."));
            return super.visitBinary(tree, none);
        }

        @Override
        public Void visitMemberSelect(MemberSelectTree tree, Void none) {
            boolean isOfClass = !"class".contentEquals(tree.getIdentifier());
            rule("4: no class objects", tree, isOfClass);
            return super.visitMemberSelect(tree, none);
        }

        @Override
        public Void visitIdentifier(IdentifierTree tree, Void none) {
            rule("4", tree, !Set.of("Object", "Class", "Thread", "Runtime", "Iterable").contains(tree.toString()));
            return super.visitIdentifier(tree, none);
        }
    }
}
