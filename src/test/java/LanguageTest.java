import com.sun.source.tree.ArrayAccessTree;
import com.sun.source.tree.AssignmentTree;
import com.sun.source.tree.BlockTree;
import com.sun.source.tree.ClassTree;
import com.sun.source.tree.CompilationUnitTree;
import com.sun.source.tree.CompoundAssignmentTree;
import com.sun.source.tree.ExpressionTree;
import com.sun.source.tree.MethodInvocationTree;
import com.sun.source.tree.MethodTree;
import com.sun.source.tree.NewArrayTree;
import com.sun.source.tree.NewClassTree;
import com.sun.source.tree.Tree;
import com.sun.source.tree.UnaryTree;
import com.sun.source.tree.VariableTree;
import com.sun.source.util.JavacTask;
import com.sun.source.util.TreePathScanner;
import com.sun.source.util.Trees;
import java.io.File;
import java.util.ArrayDeque;
import java.util.Deque;
import java.util.HashSet;
import java.util.List;
import java.util.Map;
import java.util.Set;
import java.util.TreeMap;
import java.util.TreeSet;
import javax.lang.model.element.Element;
import javax.lang.model.element.ElementKind;
import javax.lang.model.element.Modifier;
import javax.tools.JavaCompiler;
import javax.tools.StandardJavaFileManager;
import javax.tools.ToolProvider;

/** The rules of LANGUAGE.md that can be seen in the class as the compiler reads it. */
public final class LanguageTest extends TreePathScanner<Void, Void> {
    private static final int DEEPEST = 8;
    private static final Set<Tree.Kind> NEVER = Set.of(Tree.Kind.THROW, Tree.Kind.TRY, Tree.Kind.SYNCHRONIZED, Tree.Kind.ASSERT,
            Tree.Kind.LAMBDA_EXPRESSION, Tree.Kind.MEMBER_REFERENCE, Tree.Kind.ANNOTATION, Tree.Kind.FLOAT_LITERAL,
            Tree.Kind.DOUBLE_LITERAL);
    private static final Set<String> LIBRARY = Set.of("String.length", "String.charAt", "String.isEmpty", "String.equals",
            "String.indexOf", "String.substring", "String.toCharArray", "Math.max", "Math.min", "Math.abs", "Math.floorMod",
            "Math.floorDiv", "Integer.bitCount", "Integer.compare", "System.arraycopy", "Arrays.copyOf", "Arrays.copyOfRange",
            "Arrays.fill");
    private static final Set<String> MAKES = Set.of("Arrays.copyOf", "Arrays.copyOfRange", "String.substring", "String.toCharArray");
    /** What is made elsewhere than in a constructor: only what the document keeps 14 of at most. */
    private static final Set<String> MAKERS = Set.of("Reader.textRead");

    private final Due due = new Due();
    private final Trees trees;
    private final CompilationUnitTree unit;
    private final Map<String, Set<String>> calls = new TreeMap<>();
    private final Deque<ClassTree> classes = new ArrayDeque<>();
    private int classCount = 0;
    private String method = null;
    private boolean inConstructor = false;

    private LanguageTest(Trees trees, CompilationUnitTree unit) {
        this.trees = trees;
        this.unit = unit;
    }

    public static void main(String[] args) throws Exception {
        String path = args.length > 0 ? args[0] : "src/main/java/CreaseLines.java";
        JavaCompiler compiler = ToolProvider.getSystemJavaCompiler();
        try (StandardJavaFileManager files = compiler.getStandardFileManager(null, null, null)) {
            JavacTask task = (JavacTask) compiler.getTask(null, files, null, List.of("-proc:none"), null,
                    files.getJavaFileObjects(new File(path)));
            CompilationUnitTree unit = task.parse().iterator().next();
            task.analyze();
            LanguageTest test = new LanguageTest(Trees.instance(task), unit);
            test.scan(unit, null);
            test.isTrue(11, "the file has at most some twelve classes: " + test.classCount, test.classCount <= 12);
            test.callsAreShallow();
            test.due.end();
        }
    }

    private void isTrue(int rule, String what, boolean holds) {
        due.isTrue("rule " + rule + ": " + what, holds);
    }

    @Override
    public Void scan(Tree tree, Void none) {
        if (tree != null) {
            isTrue(6, "no " + tree.getKind() + " in " + method, !NEVER.contains(tree.getKind()));
        }
        return super.scan(tree, none);
    }

    // ---- classes, fields, methods

    @Override
    public Void visitClass(ClassTree tree, Void none) {
        String name = tree.getSimpleName().toString();
        classCount++;
        isTrue(2, name + " is a class of its own, static within the class", method == null && !name.isEmpty()
                && (classes.isEmpty() || tree.getModifiers().getFlags().contains(Modifier.STATIC)));
        int fields = 0;
        for (Tree member : tree.getMembers()) {
            isTrue(5, name + " has no initialiser block", !(member instanceof BlockTree));
            if (member instanceof VariableTree field) {
                boolean isStatic = field.getModifiers().getFlags().contains(Modifier.STATIC);
                fields += isStatic ? 0 : 1;
                isTrue(5, name + "." + field.getName() + " is final", !isStatic || isConstant(field));
            }
        }
        isTrue(11, name + " has some twenty fields: " + fields, fields <= 20);
        classes.push(tree);
        super.visitClass(tree, none);
        classes.pop();
        return null;
    }

    private static boolean isConstant(VariableTree field) {
        return field.getModifiers().getFlags().contains(Modifier.FINAL) && field.getInitializer() != null
                && Set.of("int", "long", "boolean", "char", "String", "int[]", "long[]", "char[]", "byte[]")
                        .contains(field.getType().toString());
    }

    @Override
    public Void visitMethod(MethodTree tree, Void none) {
        Element element = trees.getElement(getCurrentPath());
        method = nameOf(element);
        inConstructor = element.getKind() == ElementKind.CONSTRUCTOR;
        calls.computeIfAbsent(method, name -> new TreeSet<>());
        isTrue(11, method + " takes seven at most", tree.getParameters().size() <= 7);
        isTrue(11, method + " is short: " + linesOf(tree), linesOf(tree) <= 60);
        super.visitMethod(tree, none);
        method = null;
        inConstructor = false;
        return null;
    }

    private long linesOf(Tree tree) {
        long from = trees.getSourcePositions().getStartPosition(unit, tree);
        long to = trees.getSourcePositions().getEndPosition(unit, tree);
        return to < 0 ? 0 : unit.getLineMap().getLineNumber(to) - unit.getLineMap().getLineNumber(from) + 1;
    }

    @Override
    public Void visitVariable(VariableTree tree, Void none) {
        String type = tree.getType() == null ? "var" : tree.getType().toString();
        isTrue(3, tree.getName() + " in " + method + " is of a type that may be: " + type,
                type.matches("(int|long|short|byte|char|boolean|String|Leg|Closet|Text|Reader|Sheet|Slot)(\\[\\])?"));
        return super.visitVariable(tree, none);
    }

    // ---- what is called and what is made

    @Override
    public Void visitMethodInvocation(MethodInvocationTree tree, Void none) {
        Element called = trees.getElement(new com.sun.source.util.TreePath(getCurrentPath(), tree.getMethodSelect()));
        String name = nameOf(called);
        if (isOwn(called)) {
            goesOnTo(name);
        } else if (!name.equals("Object.<init>")) {
            isTrue(4, name + " in " + method + " is of the library that may be used", LIBRARY.contains(name));
            isTrue(12, name + " in " + method + " makes nothing", !MAKES.contains(name) || mayMake());
        }
        return super.visitMethodInvocation(tree, none);
    }

    @Override
    public Void visitNewClass(NewClassTree tree, Void none) {
        Element called = trees.getElement(getCurrentPath());
        isTrue(3, tree + " is of a class of the file", isOwn(called) && tree.getClassBody() == null);
        isTrue(12, tree + " is made in a constructor, not in " + method, mayMake());
        goesOnTo(nameOf(called));
        return super.visitNewClass(tree, none);
    }

    @Override
    public Void visitNewArray(NewArrayTree tree, Void none) {
        isTrue(3, tree + " has one dimension", tree.getDimensions().size() <= 1);
        isTrue(12, tree + " is made in a constructor, not in " + method, mayMake());
        return super.visitNewArray(tree, none);
    }

    /** What initialises a field is made with its object. */
    private boolean mayMake() {
        return method == null || inConstructor || MAKERS.contains(method);
    }

    private void goesOnTo(String name) {
        if (method != null) {
            calls.get(method).add(name);
        }
    }

    private static String nameOf(Element element) {
        return element.getEnclosingElement().getSimpleName() + "." + element.getSimpleName();
    }

    private static boolean isOwn(Element element) {
        Element around = element;
        while (around.getEnclosingElement() != null && around.getEnclosingElement().getKind() != ElementKind.PACKAGE) {
            around = around.getEnclosingElement();
        }
        return around.getSimpleName().contentEquals("CreaseLines");
    }

    // ---- static arrays stay as they are written out

    @Override
    public Void visitAssignment(AssignmentTree tree, Void none) {
        isNoStaticRow(tree.getVariable());
        return super.visitAssignment(tree, none);
    }

    @Override
    public Void visitCompoundAssignment(CompoundAssignmentTree tree, Void none) {
        isNoStaticRow(tree.getVariable());
        return super.visitCompoundAssignment(tree, none);
    }

    @Override
    public Void visitUnary(UnaryTree tree, Void none) {
        if (tree.getKind().name().endsWith("CREMENT")) {
            isNoStaticRow(tree.getExpression());
        }
        return super.visitUnary(tree, none);
    }

    private void isNoStaticRow(ExpressionTree changed) {
        if (changed instanceof ArrayAccessTree access) {
            Element row = trees.getElement(new com.sun.source.util.TreePath(getCurrentPath(), access.getExpression()));
            isTrue(5, access + " in " + method + " is not static", row != null && !row.getModifiers().contains(Modifier.STATIC));
        }
    }

    // ---- what calls what

    private void callsAreShallow() {
        for (String from : calls.keySet()) {
            int deep = depth(from, new HashSet<>());
            isTrue(11, "calls from " + from + " go at most eight deep: " + deep, deep <= DEEPEST);
        }
    }

    /** Nothing calls itself here, so a method that is open already counts as too deep. */
    private int depth(String from, Set<String> open) {
        if (!open.add(from)) {
            return DEEPEST + 1;
        }
        int deepest = 0;
        for (String to : calls.getOrDefault(from, Set.of())) {
            deepest = Math.max(deepest, depth(to, open));
        }
        open.remove(from);
        return 1 + deepest;
    }
}
