import com.sun.source.tree.BinaryTree;
import com.sun.source.tree.ClassTree;
import com.sun.source.tree.CompilationUnitTree;
import com.sun.source.tree.DoWhileLoopTree;
import com.sun.source.tree.ExpressionTree;
import com.sun.source.tree.ForLoopTree;
import com.sun.source.tree.MethodInvocationTree;
import com.sun.source.tree.MethodTree;
import com.sun.source.tree.NewArrayTree;
import com.sun.source.tree.NewClassTree;
import com.sun.source.tree.StatementTree;
import com.sun.source.tree.ThrowTree;
import com.sun.source.tree.Tree;
import com.sun.source.tree.VariableTree;
import com.sun.source.tree.WhileLoopTree;
import com.sun.source.util.JavacTask;
import com.sun.source.util.TreePathScanner;
import com.sun.source.util.Trees;
import java.io.File;
import java.io.IOException;
import java.util.HashMap;
import java.util.LinkedHashMap;
import java.util.LinkedHashSet;
import java.util.List;
import java.util.Map;
import java.util.Set;
import java.util.regex.Pattern;
import javax.lang.model.element.Element;
import javax.lang.model.element.Modifier;
import javax.tools.JavaCompiler;
import javax.tools.StandardJavaFileManager;
import javax.tools.ToolProvider;

/** Those rules of LANGUAGE.md that need the compiler's eyes: how deep calls go, how loops end, where objects are made. */
final class ShapeTest extends TreePathScanner<Void, Void> {
    private final Trees trees;
    private final CompilationUnitTree unit;
    private final Map<Element, Set<Element>> calls = new LinkedHashMap<>();
    private final Map<Element, Integer> depths = new HashMap<>();
    private final Set<Element> open = new LinkedHashSet<>();
    private Element method;
    private int classes;
    private int loops;

    private ShapeTest(Trees trees, CompilationUnitTree unit) {
        this.trees = trees;
        this.unit = unit;
    }

    public static void main(String[] args) throws IOException {
        JavaCompiler compiler = ToolProvider.getSystemJavaCompiler();
        StandardJavaFileManager files = compiler.getStandardFileManager(null, null, null);
        JavacTask task = (JavacTask) compiler.getTask(null, files, null, List.of("-proc:none"), null,
                files.getJavaFileObjects(new File("src/main/java/ShuffleMill.java")));
        CompilationUnitTree unit = task.parse().iterator().next();
        task.analyze();
        ShapeTest test = new ShapeTest(Trees.instance(task), unit);
        test.scan(unit, null);
        test.judge();
        Due.end();
    }

    private void judge() {
        Due.yes(classes + " classes are at most twelve", classes <= 12);
        Due.yes("loops were seen", loops > 20);
        Due.yes("methods were seen", calls.size() > 80);
        int deepest = 0;
        for (Element called : calls.keySet()) {
            deepest = Math.max(deepest, depth(called));
        }
        Due.yes("calls go " + deepest + " deep, at most eight", deepest <= 8);
        System.out.println("        calls go " + deepest + " deep; " + loops + " loops, " + calls.size() + " methods");
    }

    private int depth(Element called) {
        if (!calls.containsKey(called)) {
            return 0;
        }
        if (depths.containsKey(called)) {
            return depths.get(called);
        }
        boolean recursion = !open.add(called);
        Due.no(called + " calls itself", recursion);
        if (recursion) {
            return 0;
        }
        int deepest = 0;
        for (Element further : calls.get(called)) {
            deepest = Math.max(deepest, depth(further));
        }
        open.remove(called);
        depths.put(called, deepest + 1);
        return deepest + 1;
    }

    @Override
    public Void visitClass(ClassTree tree, Void nothing) {
        classes++;
        int fields = 0;
        for (Tree member : tree.getMembers()) {
            if (member instanceof VariableTree field && !field.getModifiers().getFlags().contains(Modifier.STATIC)) {
                fields++;
            }
        }
        Due.yes(tree.getSimpleName() + " has " + fields + " fields, at most twenty", fields <= 20);
        return super.visitClass(tree, nothing);
    }

    @Override
    public Void visitMethod(MethodTree tree, Void nothing) {
        Element before = method;
        method = trees.getElement(getCurrentPath());
        calls.put(method, new LinkedHashSet<>());
        Due.yes(method + " takes at most seven parameters", tree.getParameters().size() <= 7);
        Due.yes(method + " is short", linesOf(tree) <= 60);
        super.visitMethod(tree, nothing);
        method = before;
        return null;
    }

    private long linesOf(Tree tree) {
        long from = trees.getSourcePositions().getStartPosition(unit, tree);
        long to = trees.getSourcePositions().getEndPosition(unit, tree);
        return from < 0 ? 0 : unit.getLineMap().getLineNumber(to) - unit.getLineMap().getLineNumber(from) + 1;
    }

    @Override
    public Void visitMethodInvocation(MethodInvocationTree tree, Void nothing) {
        if (method != null) {
            calls.get(method).add(trees.getElement(getCurrentPath()));
        }
        return super.visitMethodInvocation(tree, nothing);
    }

    /** Only constructors make rows; the others only what they throw. */
    @Override
    public Void visitNewClass(NewClassTree tree, Void nothing) {
        boolean thrown = getCurrentPath().getParentPath().getLeaf() instanceof ThrowTree;
        Due.yes(tree + " in " + method, thrown != inConstructor());
        if (method != null) {
            calls.get(method).add(trees.getElement(getCurrentPath()));
        }
        return super.visitNewClass(tree, nothing);
    }

    @Override
    public Void visitNewArray(NewArrayTree tree, Void nothing) {
        Due.yes(tree + " in " + method, inConstructor());
        return super.visitNewArray(tree, nothing);
    }

    private boolean inConstructor() {
        return method == null || method.getSimpleName().contentEquals("<init>");
    }

    /** A counter of its own, below a bound, that grows. */
    @Override
    public Void visitForLoop(ForLoopTree tree, Void nothing) {
        loops++;
        StatementTree first = tree.getInitializer().isEmpty() ? null : tree.getInitializer().get(0);
        String counter = first instanceof VariableTree variable ? variable.getName().toString() : "none";
        Due.yes(tree.getCondition() + " is below a bound", isBelow(tree.getCondition(), counter));
        String update = tree.getUpdate().toString();
        Due.yes(update + " grows", update.matches(counter + "(\\+\\+;?| \\+= 2 \\* width;?| \\*= 2;?)"));
        Due.no("the body changes " + counter, changes(tree.getStatement().toString(), counter));
        return super.visitForLoop(tree, nothing);
    }

    @Override
    public Void visitWhileLoop(WhileLoopTree tree, Void nothing) {
        loops++;
        String body = tree.getStatement().toString().trim();
        Due.yes(body + " counts alone", body.matches("\\{\\s*\\w+\\+\\+;\\s*\\}"));
        String condition = tree.getCondition().toString().replaceAll("^\\(|\\)$", "");
        Due.yes(condition + " is below a bound", condition.startsWith(body.replaceAll("\\W", "") + " < "));
        return super.visitWhileLoop(tree, nothing);
    }

    @Override
    public Void visitDoWhileLoop(DoWhileLoopTree tree, Void nothing) {
        Due.no("a loop has its end behind it", true);
        return super.visitDoWhileLoop(tree, nothing);
    }

    /** Of parts joined by && one is enough. */
    private static boolean isBelow(ExpressionTree condition, String counter) {
        if (!(condition instanceof BinaryTree both)) {
            return false;
        }
        if (both.getKind() == Tree.Kind.CONDITIONAL_AND) {
            return isBelow(both.getLeftOperand(), counter) || isBelow(both.getRightOperand(), counter);
        }
        boolean upToConstant = both.getKind() == Tree.Kind.LESS_THAN_EQUAL
                && both.getRightOperand().toString().matches("[A-Z_]+");
        return both.getLeftOperand().toString().equals(counter)
                && (upToConstant || both.getKind() == Tree.Kind.LESS_THAN);
    }

    private static boolean changes(String body, String counter) {
        return Pattern.compile("\\b" + counter + "(\\+\\+|--| [-+*/]?= )").matcher(body).find();
    }
}
