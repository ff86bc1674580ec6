import com.sun.source.tree.AssertTree;
import com.sun.source.tree.BinaryTree;
import com.sun.source.tree.ClassTree;
import com.sun.source.tree.CompilationUnitTree;
import com.sun.source.tree.CompoundAssignmentTree;
import com.sun.source.tree.ExpressionTree;
import com.sun.source.tree.LambdaExpressionTree;
import com.sun.source.tree.LineMap;
import com.sun.source.tree.LiteralTree;
import com.sun.source.tree.MemberReferenceTree;
import com.sun.source.tree.MethodInvocationTree;
import com.sun.source.tree.MethodTree;
import com.sun.source.tree.NewClassTree;
import com.sun.source.tree.SynchronizedTree;
import com.sun.source.tree.ThrowTree;
import com.sun.source.tree.Tree;
import com.sun.source.tree.TryTree;
import com.sun.source.tree.VariableTree;
import com.sun.source.util.JavacTask;
import com.sun.source.util.TreePath;
import com.sun.source.util.TreePathScanner;
import com.sun.source.util.Trees;
import java.io.IOException;
import java.nio.file.Path;
import java.util.ArrayDeque;
import java.util.Deque;
import java.util.List;
import java.util.Map;
import java.util.Set;
import java.util.TreeMap;
import java.util.TreeSet;
import javax.lang.model.element.Element;
import javax.lang.model.element.ElementKind;
import javax.lang.model.element.Modifier;
import javax.lang.model.element.NestingKind;
import javax.lang.model.element.TypeElement;
import javax.lang.model.type.TypeMirror;
import javax.tools.JavaCompiler;
import javax.tools.StandardJavaFileManager;
import javax.tools.ToolProvider;

/**
 * What ../shared/LANGUAGE.md asks of the class and a program can see: its rules 1 to 6, 8 and 10 to
 * 13. Of these it allows only what the class uses by now; add here what a rule lists and a change needs.
 */
public final class LanguageTest extends TreePathScanner<Void, Void> {
    private static final String SOURCE = "src/main/java/UmbrellaSchool.java";
    private static final Set<String> LIBRARY = Set.of(
            "String.length()", "String.charAt(int)",
            "StringBuilder.append(char)", "StringBuilder.append(int)", "StringBuilder.charAt(int)",
            "StringBuilder.length()", "StringBuilder.setLength(int)",
            "Math.max(int,int)", "Math.min(int,int)",
            "System.arraycopy(java.lang.Object,int,java.lang.Object,int,int)");
    private static final Set<String> EXCEPTIONS = Set.of(
            "IllegalStateException", "IllegalArgumentException", "IndexOutOfBoundsException", "ArithmeticException",
            "UnsupportedOperationException", "NoSuchElementException", "RuntimeException");
    private static final Set<String> NUMBERS =
            Set.of("int", "long", "short", "byte", "char", "boolean", "double", "float");
    private static final Set<String> TEXTS = Set.of("java.lang.String", "java.lang.StringBuilder");
    private static final int MOST_PARAMETERS = 7;
    private static final int MOST_LINES = 60;
    private static final int MOST_CLASSES = 12;
    private static final int MOST_FIELDS = 20;
    private static final int DEEPEST_CALLS = 8;

    private final Checks checks = new Checks();
    private final Trees trees;
    private final LineMap lines;
    private final CompilationUnitTree unit;
    // Which methods of the file a method calls.
    private final Map<String, Set<String>> calls = new TreeMap<>();
    private int classes = 0;

    private LanguageTest(Trees trees, CompilationUnitTree unit) {
        this.trees = trees;
        this.unit = unit;
        lines = unit.getLineMap();
    }

    public static void main(String[] args) throws IOException {
        JavaCompiler compiler = ToolProvider.getSystemJavaCompiler();
        try (StandardJavaFileManager files = compiler.getStandardFileManager(null, null, null)) {
            JavacTask task = (JavacTask) compiler.getTask(null, files, null,
                    List.of("--release", "17", "-proc:none"), null, files.getJavaFileObjects(Path.of(SOURCE)));
            CompilationUnitTree unit = task.parse().iterator().next();
            task.analyze();
            LanguageTest test = new LanguageTest(Trees.instance(task), unit);
            test.scan(unit, null);
            test.checkFile();
            test.checks.finish("LanguageTest");
        }
    }

    private void rule(int number, Tree where, String what, boolean holds) {
        long line = lines.getLineNumber(trees.getSourcePositions().getStartPosition(unit, where));
        checks.equal("line " + line + ", rule " + number + ", " + what, holds, true);
    }

    private void checkFile() {
        rule(1, unit, "one class in the file, no package", unit.getTypeDecls().size() == 1 && unit.getPackage() == null);
        rule(11, unit, "the number of classes, " + classes, classes <= MOST_CLASSES);
        for (String method : calls.keySet()) {
            Deque<String> path = deepestFrom(method, new ArrayDeque<>());
            rule(11, unit, "calls " + path, path.size() <= DEEPEST_CALLS);
        }
    }

    /** The longest chain of calls that begins with the open ones and the method; a recursion is cut. */
    private Deque<String> deepestFrom(String method, Deque<String> open) {
        boolean isRecursion = open.contains(method);
        rule(8, unit, method + " calls itself: " + open, !isRecursion);
        open.addLast(method);
        Deque<String> deepest = new ArrayDeque<>(open);
        for (String called : isRecursion ? Set.<String>of() : calls.getOrDefault(method, Set.of())) {
            Deque<String> path = deepestFrom(called, open);
            deepest = path.size() > deepest.size() ? path : deepest;
        }
        open.removeLast();
        return deepest;
    }

    private Element elementOf(Tree tree) {
        return trees.getElement(TreePath.getPath(unit, tree));
    }

    private String typeOf(Tree tree) {
        TypeMirror type = trees.getTypeMirror(TreePath.getPath(unit, tree));
        return type == null ? "none" : type.toString();
    }

    private static boolean isOwn(String type) {
        return type.equals("UmbrellaSchool") || type.startsWith("UmbrellaSchool.");
    }

    private MethodTree openMethod() {
        TreePath path = getCurrentPath();
        while (path != null && !(path.getLeaf() instanceof MethodTree)) {
            path = path.getParentPath();
        }
        return path == null ? null : (MethodTree) path.getLeaf();
    }

    private static String nameOf(Element method) {
        // The compiler finds some of StringBuilder's methods in the class above it.
        String owner = method.getEnclosingElement().getSimpleName().toString().replace("AbstractString", "String");
        return owner + "." + method;
    }

    // ---- classes, fields and methods

    @Override
    public Void visitClass(ClassTree tree, Void none) {
        classes++;
        TypeElement element = (TypeElement) elementOf(tree);
        boolean isMember = element.getNestingKind() == NestingKind.MEMBER;
        rule(2, tree, "a class in a method", isMember || element.getNestingKind() == NestingKind.TOP_LEVEL);
        rule(1, tree, "an inner class that is not static", !isMember || element.getModifiers().contains(Modifier.STATIC));
        long fields = element.getEnclosedElements().stream()
                .filter(member -> member.getKind() == ElementKind.FIELD
                        && !member.getModifiers().contains(Modifier.STATIC)).count();
        rule(11, tree, "the number of fields, " + fields, fields <= MOST_FIELDS);
        for (Tree member : tree.getMembers()) {
            rule(5, member, "an initialiser block", member.getKind() != Tree.Kind.BLOCK);
        }
        return super.visitClass(tree, none);
    }

    @Override
    public Void visitVariable(VariableTree tree, Void none) {
        Element element = elementOf(tree);
        String type = element.asType().toString();
        String part = type.replace("[]", "");
        int dimensions = (type.length() - part.length()) / 2;
        boolean isNumber = NUMBERS.contains(part);
        rule(3, tree, "the type " + type, isNumber || isOwn(part) || TEXTS.contains(part));
        rule(3, tree, "the dimensions of " + type, dimensions <= (isNumber ? 2 : 1));
        if (element.getKind() == ElementKind.FIELD && element.getModifiers().contains(Modifier.STATIC)) {
            rule(5, tree, "a static field that can be changed", element.getModifiers().contains(Modifier.FINAL));
            boolean isValues = tree.getInitializer() instanceof MethodInvocationTree call
                    && nameOf(elementOf(call)).endsWith(".values()");
            rule(5, tree, "a static field of the type " + type, isValues || type.equals("java.lang.String")
                    || dimensions == 0 && isNumber || dimensions == 1 && Set.of("int", "long", "char", "byte").contains(part));
        }
        return super.visitVariable(tree, none);
    }

    @Override
    public Void visitMethod(MethodTree tree, Void none) {
        long first = lines.getLineNumber(trees.getSourcePositions().getStartPosition(unit, tree));
        long last = lines.getLineNumber(trees.getSourcePositions().getEndPosition(unit, tree));
        calls.putIfAbsent(nameOf(elementOf(tree)), new TreeSet<>());
        rule(11, tree, "the number of parameters", tree.getParameters().size() <= MOST_PARAMETERS);
        rule(11, tree, "the number of lines", last - first < MOST_LINES);
        rule(6, tree, "equals, hashCode or toString",
                !Set.of("equals", "hashCode", "toString").contains(tree.getName().toString()));
        return super.visitMethod(tree, none);
    }

    // ---- calls, objects and exceptions

    @Override
    public Void visitMethodInvocation(MethodInvocationTree tree, Void none) {
        Element called = elementOf(tree);
        boolean isValues = called.getSimpleName().contentEquals("values");
        if (called.getKind() == ElementKind.METHOD && !isValues) {
            if (isOwn(called.getEnclosingElement().toString())) {
                calls.computeIfAbsent(nameOf(elementOf(openMethod())), name -> new TreeSet<>()).add(nameOf(called));
            } else {
                rule(4, tree, "the library's " + nameOf(called), LIBRARY.contains(nameOf(called)));
            }
        }
        rule(12, tree, "values() in a method", !isValues || openMethod() == null);
        return super.visitMethodInvocation(tree, none);
    }

    @Override
    public Void visitNewClass(NewClassTree tree, Void none) {
        boolean isThrown = getCurrentPath().getParentPath().getLeaf() instanceof ThrowTree;
        String type = typeOf(tree);
        rule(4, tree, "new " + type, isThrown || isOwn(type) || type.equals("java.lang.StringBuilder"));
        return super.visitNewClass(tree, none);
    }

    @Override
    public Void visitThrow(ThrowTree tree, Void none) {
        boolean isWritten = false;
        if (tree.getExpression() instanceof NewClassTree made) {
            List<? extends ExpressionTree> texts = made.getArguments();
            isWritten = EXCEPTIONS.contains(made.getIdentifier().toString())
                    && (texts.isEmpty() || texts.size() == 1 && texts.get(0).getKind() == Tree.Kind.STRING_LITERAL);
        }
        rule(6, tree, "what is thrown: " + tree, isWritten);
        rule(6, tree, "a throw in a constructor", !openMethod().getName().contentEquals("<init>"));
        return super.visitThrow(tree, none);
    }

    @Override
    public Void visitTry(TryTree tree, Void none) {
        // A script asks for refusals, so that nothing is caught.
        rule(6, tree, "a try", false);
        return super.visitTry(tree, none);
    }

    // ---- what no rule allows

    @Override
    public Void visitSynchronized(SynchronizedTree tree, Void none) {
        rule(6, tree, "synchronized", false);
        return super.visitSynchronized(tree, none);
    }

    @Override
    public Void visitAssert(AssertTree tree, Void none) {
        rule(6, tree, "assert", false);
        return super.visitAssert(tree, none);
    }

    @Override
    public Void visitLambdaExpression(LambdaExpressionTree tree, Void none) {
        rule(2, tree, "a lambda", false);
        return super.visitLambdaExpression(tree, none);
    }

    @Override
    public Void visitMemberReference(MemberReferenceTree tree, Void none) {
        rule(2, tree, "a method reference", false);
        return super.visitMemberReference(tree, none);
    }

    @Override
    public Void visitBinary(BinaryTree tree, Void none) {
        rule(10, tree, "texts joined by +", !typeOf(tree).equals("java.lang.String"));
        boolean isComparison = tree.getKind() == Tree.Kind.EQUAL_TO || tree.getKind() == Tree.Kind.NOT_EQUAL_TO;
        rule(6, tree, "texts compared by == or !=",
                !isComparison || !typeOf(tree.getLeftOperand()).equals("java.lang.String"));
        return super.visitBinary(tree, none);
    }

    @Override
    public Void visitCompoundAssignment(CompoundAssignmentTree tree, Void none) {
        rule(10, tree, "texts joined by +=", !typeOf(tree).equals("java.lang.String"));
        return super.visitCompoundAssignment(tree, none);
    }

    @Override
    public Void visitLiteral(LiteralTree tree, Void none) {
        if (tree.getValue() instanceof String text) {
            rule(4, tree, "a sign beyond 1 to 127", text.chars().allMatch(sign -> sign >= 1 && sign <= 127));
        }
        return super.visitLiteral(tree, none);
    }
}
