import com.sun.source.tree.BinaryTree;
import com.sun.source.tree.BlockTree;
import com.sun.source.tree.CatchTree;
import com.sun.source.tree.ClassTree;
import com.sun.source.tree.CompilationUnitTree;
import com.sun.source.tree.CompoundAssignmentTree;
import com.sun.source.tree.ExpressionTree;
import com.sun.source.tree.IdentifierTree;
import com.sun.source.tree.ImportTree;
import com.sun.source.tree.LiteralTree;
import com.sun.source.tree.MemberSelectTree;
import com.sun.source.tree.MethodInvocationTree;
import com.sun.source.tree.MethodTree;
import com.sun.source.tree.NewArrayTree;
import com.sun.source.tree.NewClassTree;
import com.sun.source.tree.ThrowTree;
import com.sun.source.tree.Tree;
import com.sun.source.tree.TryTree;
import com.sun.source.tree.UnionTypeTree;
import com.sun.source.tree.VariableTree;
import com.sun.source.util.JavacTask;
import com.sun.source.util.TreePathScanner;
import com.sun.source.util.Trees;
import java.io.IOException;
import java.nio.file.Files;
import java.nio.file.Path;
import java.util.EnumSet;
import java.util.HashMap;
import java.util.HashSet;
import java.util.LinkedHashSet;
import java.util.List;
import java.util.Map;
import java.util.Set;
import javax.lang.model.element.Element;
import javax.lang.model.element.ElementKind;
import javax.lang.model.element.ExecutableElement;
import javax.lang.model.element.Modifier;
import javax.lang.model.element.VariableElement;
import javax.tools.JavaCompiler;
import javax.tools.StandardJavaFileManager;
import javax.tools.ToolProvider;

/** The rules of LANGUAGE.md that the source can be asked for with the compiler's own trees, by their numbers. */
public final class LanguageTest {
    private static final Path SOURCE = Path.of("src/main/java/BindingPlanner.java");
    private static final Set<String> EXCEPTIONS = Set.of("IllegalStateException", "IllegalArgumentException",
        "IndexOutOfBoundsException", "ArithmeticException", "UnsupportedOperationException", "NoSuchElementException",
        "RuntimeException");
    private static final Set<String> IMPORTS = Set.of("java.util.NoSuchElementException", "java.util.ArrayList",
        "java.util.List", "java.util.Iterator", "java.util.Arrays");
    private static final Map<String, Set<String>> LIBRARY = Map.of(
        "java.lang.String", Set.of("length", "charAt", "isEmpty", "equals", "indexOf", "substring", "toCharArray"),
        "java.lang.StringBuilder", Set.of("append", "charAt", "setCharAt", "setLength", "deleteCharAt", "reverse",
            "length", "toString"),
        "java.util.ArrayList", Set.of("add", "get", "set", "remove", "size", "isEmpty", "clear"),
        "java.util.List", Set.of("add", "get", "set", "remove", "size", "isEmpty", "clear", "of"),
        "java.util.Iterator", Set.of("hasNext", "next"),
        "java.lang.Iterable", Set.of("iterator"),
        "java.lang.Comparable", Set.of("compareTo"),
        "java.lang.Enum", Set.of("ordinal", "values"),
        "java.lang.System", Set.of("arraycopy"),
        "java.util.Arrays", Set.of("copyOf", "copyOfRange", "fill"));
    private static final Set<String> OF_NUMBERS = Set.of("java.lang.Integer", "java.lang.Long", "java.lang.Math");
    private static final Set<String> TYPES = Set.of("int", "long", "short", "byte", "char", "boolean", "double", "float",
        "java.lang.String", "java.lang.StringBuilder", "java.lang.Integer", "java.util.ArrayList", "java.util.List",
        "java.util.Iterator");
    private static final Set<String> MADE = Set.of("java.lang.String", "java.lang.StringBuilder", "java.util.ArrayList");
    private static final Set<Tree.Kind> RULED_OUT = EnumSet.of(Tree.Kind.LAMBDA_EXPRESSION, Tree.Kind.MEMBER_REFERENCE,
        Tree.Kind.SYNCHRONIZED, Tree.Kind.ASSERT);
    private static final int MOST_LINES = 70;
    private static final int MOST_CLASSES = 14;
    private static final int MOST_FIELDS = 24;
    private static final int DEEPEST = 8;

    private final Trees trees;
    private final CompilationUnitTree unit;
    private final Set<String> faceNames = new HashSet<>();
    private final Map<Element, Set<Element>> calls = new HashMap<>();
    private int classes = 0;

    private LanguageTest(Trees trees, CompilationUnitTree unit) {
        this.trees = trees;
        this.unit = unit;
    }

    public static void main(String[] args) throws IOException {
        JavaCompiler compiler = ToolProvider.getSystemJavaCompiler();
        try (StandardJavaFileManager files = compiler.getStandardFileManager(null, null, null)) {
            JavacTask task = (JavacTask) compiler.getTask(null, files, null, List.of("-proc:none"), null,
                files.getJavaFileObjects(SOURCE));
            CompilationUnitTree unit = task.parse().iterator().next();
            task.analyze();
            new LanguageTest(Trees.instance(task), unit).check();
        }
        Checks.finish();
    }

    private void check() throws IOException {
        Checks.is("types at the top", 1, unit.getTypeDecls().size());
        Checks.same("package", true, unit.getPackage() == null);
        boolean isPlain = Files.readString(SOURCE).chars().allMatch(sign -> sign >= 1 && sign <= 127);
        Checks.same("rule 4: signs 1 to 127 alone", true, isPlain);
        for (Tree member : ((ClassTree) unit.getTypeDecls().get(0)).getMembers()) {
            if (member instanceof MethodTree method && method.getModifiers().getFlags().contains(Modifier.PUBLIC)) {
                faceNames.add(method.getName().toString());
            }
        }
        new Scanner().scan(unit, null);
        Checks.same("rule 11: classes of the file", true, classes <= MOST_CLASSES);
        for (Element method : calls.keySet()) {
            int depth = depthOf(method, new LinkedHashSet<>());
            Checks.same("rule 11: calls below " + method + " go " + depth + " deep", true, depth <= DEEPEST);
        }
    }

    /** How many calls that are no recursion stand open at most. */
    private int depthOf(Element method, Set<Element> open) {
        if (!calls.containsKey(method) || !open.add(method)) {
            return 0;
        }
        int below = 0;
        for (Element called : calls.get(method)) {
            below = Math.max(below, depthOf(called, open));
        }
        open.remove(method);
        return 1 + below;
    }

    private final class Scanner extends TreePathScanner<Void, Void> {
        private MethodTree method = null;
        private boolean isThrowing = false;
        private boolean isCatching = false;

        private void rule(String rule, Tree tree, boolean isKept) {
            long line = unit.getLineMap().getLineNumber(trees.getSourcePositions().getStartPosition(unit, tree));
            Checks.same("line " + line + ", rule " + rule + ": " + tree.toString().lines().findFirst().orElse(""), true,
                isKept);
        }

        private Element elementOf(Tree tree) {
            return trees.getElement(trees.getPath(unit, tree));
        }

        private String typeOf(Tree tree) {
            return String.valueOf(trees.getTypeMirror(trees.getPath(unit, tree)));
        }

        private boolean isOwn(String type) {
            return type.startsWith("BindingPlanner");
        }

        @Override
        public Void scan(Tree tree, Void none) {
            if (tree != null && RULED_OUT.contains(tree.getKind())) {
                rule("2 or 6", tree, false);
            }
            return super.scan(tree, none);
        }

        @Override
        public Void visitImport(ImportTree tree, Void none) {
            rule("4", tree, IMPORTS.contains(tree.getQualifiedIdentifier().toString()));
            return super.visitImport(tree, none);
        }

        @Override
        public Void visitClass(ClassTree tree, Void none) {
            classes++;
            Set<Modifier> modifiers = tree.getModifiers().getFlags();
            boolean isOutermost = getCurrentPath().getParentPath().getLeaf() == unit;
            boolean isShown = modifiers.contains(Modifier.PUBLIC) || modifiers.contains(Modifier.PROTECTED);
            rule("1", tree, isOutermost || !isShown);
            rule("6: no exceptions of its own", tree, tree.getExtendsClause() == null
                || isOwn(typeOf(tree.getExtendsClause())));
            long fields = tree.getMembers().stream().filter(member -> member instanceof VariableTree field
                && !field.getModifiers().getFlags().contains(Modifier.STATIC)).count();
            rule("11: fields", tree, fields <= MOST_FIELDS);
            for (Tree member : tree.getMembers()) {
                rule("5: no static initialiser", member, !(member instanceof BlockTree block) || !block.isStatic());
            }
            return super.visitClass(tree, none);
        }

        @Override
        public Void visitMethod(MethodTree tree, Void none) {
            MethodTree outer = method;
            method = tree;
            isThrowing = false;
            isCatching = false;
            calls.put(elementOf(tree), new LinkedHashSet<>());
            long first = unit.getLineMap().getLineNumber(trees.getSourcePositions().getStartPosition(unit, tree));
            long last = unit.getLineMap().getLineNumber(trees.getSourcePositions().getEndPosition(unit, tree));
            String name = tree.getName().toString();
            boolean isPrivate = tree.getReturnType() != null && tree.getModifiers().getFlags().contains(Modifier.PRIVATE);
            rule("1: a name of its own", tree, !isPrivate || !faceNames.contains(name));
            rule("6: " + name, tree, !Set.of("equals", "hashCode", "toString").contains(name));
            rule("11: lines", tree, last - first < MOST_LINES);
            rule("11: parameters", tree, tree.getParameters().size() <= 7);
            super.visitMethod(tree, none);
            rule("6: throws or catches", tree, !isThrowing || !isCatching);
            method = outer;
            return null;
        }

        @Override
        public Void visitVariable(VariableTree tree, Void none) {
            String type = elementOf(tree).asType().toString();
            String plain = type.replaceAll("<.*>|\\[\\]", "");
            boolean isParameterOfCatch = getCurrentPath().getParentPath().getLeaf() instanceof CatchTree;
            boolean isTypeVariable = plain.length() == 1;
            int rows = (type.length() - type.replace("[]", "").length()) / 2;
            boolean isNumbers = TYPES.contains(plain) && Character.isLowerCase(plain.charAt(0)) && !plain.contains(".");
            rule("3", tree, isParameterOfCatch || isTypeVariable || TYPES.contains(plain) || isOwn(plain));
            rule("3: rows of rows", tree, rows <= (isNumbers ? 2 : 1));
            boolean isConstantOfEnum = elementOf(tree).getKind() == ElementKind.ENUM_CONSTANT;
            if (elementOf(tree) instanceof VariableElement field && field.getModifiers().contains(Modifier.STATIC)) {
                rule("5", tree, field.getModifiers().contains(Modifier.FINAL));
                rule("5: a constant", tree, isConstantOfEnum || field.getConstantValue() != null
                    || isWrittenOut(type, tree.getInitializer()));
            }
            return super.visitVariable(tree, none);
        }

        private boolean isWrittenOut(String type, ExpressionTree value) {
            if (isOwn(type)) {
                return value instanceof MethodInvocationTree call && call.toString().endsWith("values()");
            }
            return Set.of("int[]", "long[]", "char[]", "byte[]").contains(type) && value instanceof NewArrayTree array
                && array.getInitializers() != null;
        }

        @Override
        public Void visitTry(TryTree tree, Void none) {
            isCatching = true;
            rule("6: no finally, no resources", tree, tree.getFinallyBlock() == null && tree.getResources().isEmpty());
            return super.visitTry(tree, none);
        }

        @Override
        public Void visitCatch(CatchTree tree, Void none) {
            Tree type = tree.getParameter().getType();
            List<? extends Tree> caught = type instanceof UnionTypeTree union ? union.getTypeAlternatives() : List.of(type);
            rule("6: what is caught", tree, caught.stream().allMatch(each -> EXCEPTIONS.contains(each.toString())));
            String name = "\\b" + tree.getParameter().getName() + "\\b";
            rule("6: left alone", tree, !tree.getBlock().toString().matches("(?s).*" + name + ".*"));
            return super.visitCatch(tree, none);
        }

        @Override
        public Void visitThrow(ThrowTree tree, Void none) {
            isThrowing = true;
            boolean isKept = method != null && method.getReturnType() != null
                && tree.getExpression() instanceof NewClassTree made
                && EXCEPTIONS.contains(made.getIdentifier().toString())
                && (made.getArguments().isEmpty() || made.getArguments().size() == 1
                    && made.getArguments().get(0) instanceof LiteralTree);
            rule("6", tree, isKept);
            return super.visitThrow(tree, none);
        }

        @Override
        public Void visitNewClass(NewClassTree tree, Void none) {
            String made = typeOf(tree).replaceAll("<.*>", "");
            boolean isThrown = getCurrentPath().getParentPath().getLeaf() instanceof ThrowTree;
            rule("4 and 6", tree, isThrown || MADE.contains(made) || isOwn(made) || tree.getClassBody() != null);
            return super.visitNewClass(tree, none);
        }

        @Override
        public Void visitMethodInvocation(MethodInvocationTree tree, Void none) {
            if (elementOf(tree) instanceof ExecutableElement called && called.getKind() == ElementKind.METHOD) {
                String owner = called.getEnclosingElement().toString();
                boolean isOfRow = tree.getMethodSelect() instanceof MemberSelectTree select
                    && typeOf(select.getExpression()).endsWith("[]") && called.getSimpleName().contentEquals("clone");
                rule("4", tree, isOwn(owner) || isOfRow || isOfLibrary(owner, called));
                if (isOwn(owner) && method != null) {
                    calls.get(elementOf(method)).add(called);
                }
            }
            return super.visitMethodInvocation(tree, none);
        }

        private boolean isOfLibrary(String owner, ExecutableElement called) {
            String name = called.getSimpleName().toString();
            boolean isOfNumbers = OF_NUMBERS.contains(owner) && called.getModifiers().contains(Modifier.STATIC)
                && !called.getParameters().isEmpty() && !name.endsWith("Exact")
                && called.getParameters().stream().allMatch(each -> Set.of("int", "long").contains(each.asType().toString()));
            String plainOwner = owner.replaceAll("<.*>", "");
            return isOfNumbers || LIBRARY.getOrDefault(plainOwner, Set.of()).contains(name);
        }

        @Override
        public Void visitBinary(BinaryTree tree, Void none) {
            rule("10: no texts joined by +", tree, !typeOf(tree).equals("java.lang.String"));
            boolean isSame = tree.getKind() == Tree.Kind.EQUAL_TO || tree.getKind() == Tree.Kind.NOT_EQUAL_TO;
            boolean areObjects = typeOf(tree.getLeftOperand()).startsWith("java.")
                && typeOf(tree.getRightOperand()).startsWith("java.");
            rule("6: == of texts", tree, !isSame || !areObjects);
            return super.visitBinary(tree, none);
        }

        @Override
        public Void visitCompoundAssignment(CompoundAssignmentTree tree, Void none) {
            rule("10: no texts joined by +=", tree, !typeOf(tree).equals("java.lang.String"));
            return super.visitCompoundAssignment(tree, none);
        }

        @Override
        public Void visitMemberSelect(MemberSelectTree tree, Void none) {
            rule("4: no class objects", tree, !tree.getIdentifier().contentEquals("class"));
            return super.visitMemberSelect(tree, none);
        }

        @Override
        public Void visitIdentifier(IdentifierTree tree, Void none) {
            rule("4", tree, !Set.of("Object", "Class", "Thread", "Runtime").contains(tree.toString()));
            return super.visitIdentifier(tree, none);
        }
    }
}
