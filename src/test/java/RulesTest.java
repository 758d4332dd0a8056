import com.sun.source.tree.AssertTree;
import com.sun.source.tree.BinaryTree;
import com.sun.source.tree.CompilationUnitTree;
import com.sun.source.tree.DoWhileLoopTree;
import com.sun.source.tree.ForLoopTree;
import com.sun.source.tree.LambdaExpressionTree;
import com.sun.source.tree.LiteralTree;
import com.sun.source.tree.MemberReferenceTree;
import com.sun.source.tree.MethodInvocationTree;
import com.sun.source.tree.MethodTree;
import com.sun.source.tree.NewArrayTree;
import com.sun.source.tree.NewClassTree;
import com.sun.source.tree.ThrowTree;
import com.sun.source.tree.Tree;
import com.sun.source.tree.TryTree;
import com.sun.source.tree.TypeCastTree;
import com.sun.source.tree.WhileLoopTree;
import com.sun.source.util.JavacTask;
import com.sun.source.util.TreePathScanner;
import com.sun.source.util.Trees;
import java.io.IOException;
import java.nio.file.Path;
import java.util.HashSet;
import java.util.List;
import java.util.Map;
import java.util.Set;
import java.util.TreeMap;
import java.util.TreeSet;
import java.util.regex.Pattern;
import javax.lang.model.element.Element;
import javax.lang.model.element.ElementKind;
import javax.lang.model.type.TypeMirror;
import javax.tools.JavaCompiler;
import javax.tools.StandardJavaFileManager;
import javax.tools.ToolProvider;

/**
 * The rules of LANGUAGE.md that need more than a text search: the compiler's own tree of the file tells which calls
 * go to the library, how deep the calls go, how long the methods are, and what is thrown where.
 */
public final class RulesTest extends TreePathScanner<Void, Void> {
    private static final Path SOURCE = Path.of("src/main/java/EvenstartGames.java");
    private static final int DEEPEST = 8;
    private static final int LONGEST = 60;

    /** What rule 4 allows, without texts, for which the file has no use. */
    private static final Pattern LIBRARY = Pattern.compile("java\\.lang\\.Object\\.<init>"
            + "|java\\.util\\.ArrayList\\.(<init>|add|get|set|remove|size|isEmpty|clear)"
            + "|java\\.util\\.Arrays\\.(copyOf|copyOfRange|fill)|java\\.lang\\.System\\.arraycopy"
            + "|java\\.lang\\.(Integer|Long|Math)\\.(compare|max|min|abs|bitCount)");

    /** What rule 6 allows. */
    private static final Set<String> EXCEPTIONS = Set.of("java.lang.IllegalStateException",
            "java.lang.IllegalArgumentException", "java.lang.IndexOutOfBoundsException",
            "java.lang.ArithmeticException", "java.lang.UnsupportedOperationException",
            "java.util.NoSuchElementException", "java.lang.RuntimeException");

    private final Trees trees;
    private final CompilationUnitTree unit;
    private final Map<String, TreeSet<String>> callsOf = new TreeMap<>();
    private final Map<String, Integer> depths = new TreeMap<>();
    private final Set<String> open = new HashSet<>();
    private String method = "a field";
    private boolean inConstructor;
    private int wrong;

    private RulesTest(Trees trees, CompilationUnitTree unit) {
        this.trees = trees;
        this.unit = unit;
    }

    public static void main(String[] args) throws IOException {
        JavaCompiler compiler = ToolProvider.getSystemJavaCompiler();
        StandardJavaFileManager files = compiler.getStandardFileManager(null, null, null);
        JavacTask task = (JavacTask) compiler.getTask(null, files, null, List.of("-proc:none"), null,
                files.getJavaFileObjects(SOURCE));
        CompilationUnitTree unit = task.parse().iterator().next();
        task.analyze();
        RulesTest test = new RulesTest(Trees.instance(task), unit);
        test.scan(unit, null);
        test.lookAtDepths();
        System.out.println(test.callsOf.size() + " methods, " + test.wrong + " rules are broken");
        if (test.wrong != 0 || test.callsOf.isEmpty()) {
            System.exit(1);
        }
    }

    private void need(boolean good, String what) {
        if (!good) {
            wrong++;
            System.out.println(method + ": " + what);
        }
    }

    // ---------------------------------------------------------------- calls

    @Override
    public Void visitMethod(MethodTree tree, Void none) {
        Element element = trees.getElement(getCurrentPath());
        String outside = method;
        method = nameOf(element);
        inConstructor = element.getKind() == ElementKind.CONSTRUCTOR;
        callsOf.putIfAbsent(method, new TreeSet<>());
        need(lineOf(trees.getSourcePositions().getEndPosition(unit, tree))
                - lineOf(trees.getSourcePositions().getStartPosition(unit, tree)) < LONGEST, "more than 60 lines");
        super.visitMethod(tree, none);
        method = outside;
        inConstructor = false;
        return null;
    }

    private long lineOf(long position) {
        return unit.getLineMap().getLineNumber(position);
    }

    private static String nameOf(Element method) {
        return method.getEnclosingElement() + "." + method.getSimpleName();
    }

    @Override
    public Void visitMethodInvocation(MethodInvocationTree tree, Void none) {
        call(trees.getElement(getCurrentPath()));
        return super.visitMethodInvocation(tree, none);
    }

    @Override
    public Void visitNewClass(NewClassTree tree, Void none) {
        Element made = trees.getElement(getCurrentPath());
        if (EXCEPTIONS.contains(made.getEnclosingElement().toString())) {
            boolean written = tree.getArguments().stream().allMatch(text -> text instanceof LiteralTree);
            need(written && tree.getArguments().size() <= 1, "an exception without a written text");
            need(getCurrentPath().getParentPath().getLeaf() instanceof ThrowTree, "an exception made and not thrown");
        } else {
            call(made);
        }
        return super.visitNewClass(tree, none);
    }

    private void call(Element called) {
        String name = nameOf(called);
        if (name.startsWith("EvenstartGames")) {
            callsOf.computeIfAbsent(method, key -> new TreeSet<>()).add(name);
        } else {
            need(LIBRARY.matcher(name).matches(), "a call of " + name);
        }
    }

    private void lookAtDepths() {
        for (String name : callsOf.keySet()) {
            method = name;
            need(depthOf(name) <= DEEPEST, "goes " + depthOf(name) + " calls deep");
        }
    }

    private int depthOf(String name) {
        if (!open.add(name)) {
            need(false, "calls itself");
            return 1;
        }
        int deepest = 0;
        if (!depths.containsKey(name)) {
            for (String called : callsOf.getOrDefault(name, new TreeSet<>())) {
                deepest = Math.max(deepest, depthOf(called));
            }
            depths.put(name, deepest + 1);
        }
        open.remove(name);
        return depths.get(name);
    }

    // ---------------------------------------------------------------- what must not stand, or only in one form

    @Override
    public Void visitThrow(ThrowTree tree, Void none) {
        need(!inConstructor, "a throw in a constructor");
        need(tree.getExpression() instanceof NewClassTree, "a throw of what was made elsewhere");
        return super.visitThrow(tree, none);
    }

    @Override
    public Void visitForLoop(ForLoopTree tree, Void none) {
        need(tree.getCondition() != null && !tree.getUpdate().isEmpty(), "a loop without a bound or without a step");
        return super.visitForLoop(tree, none);
    }

    @Override
    public Void visitWhileLoop(WhileLoopTree tree, Void none) {
        need(false, "a while, whose end the file has shown by counters so far");
        return super.visitWhileLoop(tree, none);
    }

    @Override
    public Void visitDoWhileLoop(DoWhileLoopTree tree, Void none) {
        need(false, "a do, whose end the file has shown by counters so far");
        return super.visitDoWhileLoop(tree, none);
    }

    @Override
    public Void visitTry(TryTree tree, Void none) {
        need(false, "a try: what the class throws goes to its caller");
        return super.visitTry(tree, none);
    }

    @Override
    public Void visitAssert(AssertTree tree, Void none) {
        need(false, "an assert");
        return super.visitAssert(tree, none);
    }

    @Override
    public Void visitLambdaExpression(LambdaExpressionTree tree, Void none) {
        need(false, "a lambda");
        return super.visitLambdaExpression(tree, none);
    }

    @Override
    public Void visitMemberReference(MemberReferenceTree tree, Void none) {
        need(false, "a method reference");
        return super.visitMemberReference(tree, none);
    }

    @Override
    public Void visitTypeCast(TypeCastTree tree, Void none) {
        need(isNumber(tree.getType()), "a cast to other than a number");
        return super.visitTypeCast(tree, none);
    }

    private boolean isNumber(Tree type) {
        TypeMirror mirror = trees.getTypeMirror(com.sun.source.util.TreePath.getPath(unit, type));
        return mirror.getKind().isPrimitive();
    }

    @Override
    public Void visitNewArray(NewArrayTree tree, Void none) {
        for (Tree length : tree.getDimensions()) {
            need(length.toString().matches("[A-Z_]+"), "an array whose length is no constant");
        }
        return super.visitNewArray(tree, none);
    }

    @Override
    public Void visitBinary(BinaryTree tree, Void none) {
        if (tree.getKind() == Tree.Kind.DIVIDE || tree.getKind() == Tree.Kind.REMAINDER) {
            String divisor = tree.getRightOperand().toString().replaceAll("\\((int|long|float|double)\\)", "");
            need(divisor.matches("[A-Z_]+|all"), "a division by " + divisor);
        }
        return super.visitBinary(tree, none);
    }
}
