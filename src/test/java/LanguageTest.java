import com.sun.source.tree.*;
import com.sun.source.util.JavacTask;
import com.sun.source.util.TreePathScanner;
import com.sun.source.util.Trees;
import java.io.IOException;
import java.nio.file.Path;
import java.util.HashMap;
import java.util.LinkedHashSet;
import java.util.List;
import java.util.Map;
import java.util.Set;
import javax.lang.model.element.Element;
import javax.lang.model.element.ElementKind;
import javax.lang.model.element.Modifier;
import javax.lang.model.element.TypeElement;
import javax.tools.JavaCompiler;
import javax.tools.StandardJavaFileManager;
import javax.tools.ToolProvider;

/** The program keeps to what can be seen of ../shared/LANGUAGE.md in its source; the face is FaceTest's. */
public final class LanguageTest extends TreePathScanner<Void, Void> {
    private static final Path PROGRAM = Path.of("src/main/java/SnapshotVolumes.java");
    // Of rule 4 what the program uses, and what stands near it.
    private static final Set<String> LIBRARY = Set.of("String.length", "String.charAt", "String.isEmpty", "String.equals",
        "String.substring", "StringBuilder.append", "StringBuilder.charAt", "StringBuilder.setLength", "StringBuilder.length",
        "Integer.bitCount", "Math.max", "Math.min", "Math.abs", "System.arraycopy", "Arrays.fill", "Object.<init>");
    private static final Set<String> EXCEPTIONS = Set.of("IllegalStateException", "IllegalArgumentException",
        "IndexOutOfBoundsException", "ArithmeticException", "UnsupportedOperationException", "NoSuchElementException",
        "RuntimeException");
    // Some of these are allowed where they are used well; the program needs none.
    private static final Set<Tree.Kind> NEVER = Set.of(Tree.Kind.LAMBDA_EXPRESSION, Tree.Kind.MEMBER_REFERENCE, Tree.Kind.ASSERT,
        Tree.Kind.SYNCHRONIZED, Tree.Kind.TRY, Tree.Kind.IMPORT, Tree.Kind.PACKAGE, Tree.Kind.STRING_LITERAL);
    private static final int MOST_LINES = 60;
    private static final int MOST_PARAMETERS = 7;
    private static final int MOST_CLASSES = 12;
    private static final int MOST_FIELDS = 20;
    private static final int DEEPEST = 8;

    private final Trees trees;
    private final CompilationUnitTree unit;
    private final Map<Element, Set<Element>> calls = new HashMap<>();
    private Element method = null;
    private int classes = 0;
    private int wrong = 0;

    private LanguageTest(Trees trees, CompilationUnitTree unit) {
        this.trees = trees;
        this.unit = unit;
    }

    public static void main(String[] args) throws IOException {
        JavaCompiler compiler = ToolProvider.getSystemJavaCompiler();
        try (StandardJavaFileManager files = compiler.getStandardFileManager(null, null, null)) {
            JavacTask task = (JavacTask) compiler.getTask(null, files, null, List.of("-proc:none"), null,
                files.getJavaFileObjects(PROGRAM));
            CompilationUnitTree unit = task.parse().iterator().next();
            task.analyze();
            LanguageTest test = new LanguageTest(Trees.instance(task), unit);
            test.scan(unit, null);
            System.exit(test.sum());
        }
    }

    private int sum() {
        int deepest = 0;
        for (Element start : calls.keySet()) {
            deepest = Math.max(deepest, depth(start, 1));
        }
        due("calls, deepest", deepest, DEEPEST);
        due("classes", classes, MOST_CLASSES);
        System.out.println("language: " + classes + " classes, calls " + deepest + " deep, " + wrong + " things not as due");
        return wrong == 0 ? 0 : 1;
    }

    private int depth(Element from, int level) {
        if (level > DEEPEST) {
            return level;
        }
        int deepest = level;
        for (Element to : calls.getOrDefault(from, Set.of())) {
            deepest = Math.max(deepest, depth(to, level + 1));
        }
        return deepest;
    }

    private void due(String what, int number, int most) {
        if (number > most) {
            wrong(what + " are " + number + ", due are at most " + most, null);
        }
    }

    private void wrong(String what, Tree at) {
        wrong++;
        System.out.println((at == null ? "" : "line " + line(trees.getSourcePositions().getStartPosition(unit, at)) + ": ") + what);
    }

    private long line(long position) {
        return unit.getLineMap().getLineNumber(position);
    }

    private Element element(Tree tree) {
        return trees.getElement(trees.getPath(unit, tree));
    }

    @Override
    public Void scan(Tree tree, Void none) {
        if (tree != null && NEVER.contains(tree.getKind()) && !isPlainText(tree)) {
            wrong("not allowed: " + tree.getKind(), tree);
        }
        return super.scan(tree, none);
    }

    // Rules 4 and 10: a text is an argument or a value, and not joined by +; its signs are 1 to 127.
    private boolean isPlainText(Tree tree) {
        if (tree.getKind() != Tree.Kind.STRING_LITERAL) {
            return false;
        }
        String text = (String) ((LiteralTree) tree).getValue();
        return !(getCurrentPath().getLeaf() instanceof BinaryTree) && text.chars().allMatch(sign -> sign > 0 && sign < 128);
    }

    @Override
    public Void visitClass(ClassTree tree, Void none) {
        classes++;
        int fields = 0;
        for (Tree member : tree.getMembers()) {
            if (member instanceof BlockTree) {
                wrong("an initialiser block", member);
            }
            if (member instanceof VariableTree) {
                fields += isStatic(member) ? 0 : 1;
            }
        }
        due("fields of " + tree.getSimpleName(), fields, MOST_FIELDS);
        boolean outer = getCurrentPath().getParentPath().getLeaf() instanceof CompilationUnitTree;
        if (!outer && !(isStatic(tree) && getCurrentPath().getParentPath().getLeaf() instanceof ClassTree)) {
            wrong("a class that is not static and inside the program's class", tree);
        }
        return super.visitClass(tree, none);
    }

    private boolean isStatic(Tree tree) {
        return element(tree).getModifiers().contains(Modifier.STATIC);
    }

    @Override
    public Void visitVariable(VariableTree tree, Void none) {
        Set<Modifier> modifiers = element(tree).getModifiers();
        if (modifiers.contains(Modifier.STATIC) && !modifiers.contains(Modifier.FINAL)) {
            wrong("a static field that is not final", tree);
        }
        return super.visitVariable(tree, none);
    }

    @Override
    public Void visitMethod(MethodTree tree, Void none) {
        method = element(tree);
        calls.put(method, new LinkedHashSet<>());
        long first = line(trees.getSourcePositions().getStartPosition(unit, tree));
        long last = line(trees.getSourcePositions().getEndPosition(unit, tree));
        due("lines of " + tree.getName(), (int) (last - first + 1), MOST_LINES);
        due("parameters of " + tree.getName(), tree.getParameters().size(), MOST_PARAMETERS);
        super.visitMethod(tree, none);
        method = null;
        return null;
    }

    @Override
    public Void visitMethodInvocation(MethodInvocationTree tree, Void none) {
        called(element(tree.getMethodSelect()), tree);
        return super.visitMethodInvocation(tree, none);
    }

    private void called(Element to, Tree at) {
        TypeElement owner = (TypeElement) to.getEnclosingElement();
        if (isOwn(owner)) {
            if (method != null) {
                calls.get(method).add(to);
            }
        } else if (!LIBRARY.contains(owner.getSimpleName().toString().replace("Abstract", "") + "." + to.getSimpleName())) {
            wrong("a call of " + owner + "." + to, at);
        }
    }

    private static boolean isOwn(Element element) {
        return element.toString().startsWith("SnapshotVolumes");
    }

    // Rule 12 lets calls make objects; this program's make none but exceptions, so that no run can fill the room.
    @Override
    public Void visitNewClass(NewClassTree tree, Void none) {
        boolean thrown = getCurrentPath().getParentPath().getLeaf() instanceof ThrowTree;
        if (!thrown) {
            madeInConstructor(tree);
        } else if (!EXCEPTIONS.contains(tree.getIdentifier().toString())) {
            wrong("an exception " + tree.getIdentifier(), tree);
        }
        return super.visitNewClass(tree, none);
    }

    @Override
    public Void visitNewArray(NewArrayTree tree, Void none) {
        madeInConstructor(tree);
        return super.visitNewArray(tree, none);
    }

    private void madeInConstructor(Tree tree) {
        if (method != null && method.getKind() != ElementKind.CONSTRUCTOR) {
            wrong("an object is made by a call", tree);
        }
    }

    @Override
    public Void visitThrow(ThrowTree tree, Void none) {
        if (!(tree.getExpression() instanceof NewClassTree) || method == null || method.getKind() == ElementKind.CONSTRUCTOR) {
            wrong("a throw of something else than a new exception, or in a constructor", tree);
        }
        return super.visitThrow(tree, none);
    }

    // Rule 7: a divisor is a constant that is not 0.
    @Override
    public Void visitBinary(BinaryTree tree, Void none) {
        boolean divides = tree.getKind() == Tree.Kind.DIVIDE || tree.getKind() == Tree.Kind.REMAINDER;
        if (divides && trees.getTypeMirror(getCurrentPath()).toString().equals("int") && !isConstant(tree.getRightOperand())) {
            wrong("a divisor that is no constant", tree);
        }
        return super.visitBinary(tree, none);
    }

    private boolean isConstant(ExpressionTree tree) {
        return tree.toString().matches("[1-9][0-9]*|[A-Z_]+");
    }
}
