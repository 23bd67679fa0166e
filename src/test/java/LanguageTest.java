import com.sun.source.tree.BinaryTree;
import com.sun.source.tree.ClassTree;
import com.sun.source.tree.CompilationUnitTree;
import com.sun.source.tree.ExpressionTree;
import com.sun.source.tree.MethodInvocationTree;
import com.sun.source.tree.MethodTree;
import com.sun.source.tree.NewClassTree;
import com.sun.source.tree.Tree;
import com.sun.source.util.JavacTask;
import com.sun.source.util.TreePath;
import com.sun.source.util.TreePathScanner;
import com.sun.source.util.Trees;
import java.io.IOException;
import java.nio.file.Path;
import java.util.ArrayList;
import java.util.EnumSet;
import java.util.HashMap;
import java.util.LinkedHashSet;
import java.util.List;
import java.util.Map;
import java.util.Set;
import javax.lang.model.element.Element;
import javax.lang.model.element.ElementKind;
import javax.lang.model.element.VariableElement;
import javax.tools.JavaCompiler;
import javax.tools.StandardJavaFileManager;
import javax.tools.ToolProvider;

/** The rules of LANGUAGE.md that show in the tree of the source; FaceTest has those that show outside. */
public final class LanguageTest extends TreePathScanner<Void, Void> {
    private static final String SOURCE = "src/main/java/EchoPaysRent.java";
    private static final int DEEPEST = 8;
    private static final int LONGEST = 60;
    private static final Set<String> LIBRARY = Set.of("java.lang.Math.abs", "java.lang.Math.max",
        "java.lang.Math.min", "java.lang.Integer.bitCount", "java.util.Arrays.fill", "java.lang.Object.<init>");
    private static final Set<Tree.Kind> RULED_OUT = EnumSet.of(Tree.Kind.THROW, Tree.Kind.TRY, Tree.Kind.ASSERT,
        Tree.Kind.SYNCHRONIZED, Tree.Kind.LAMBDA_EXPRESSION, Tree.Kind.MEMBER_REFERENCE, Tree.Kind.UNION_TYPE,
        Tree.Kind.ANNOTATION);

    private final CompilationUnitTree unit;
    private final Trees trees;
    private final Map<Element, Set<Element>> callsOf = new HashMap<>();
    private Element open = null;
    private int classes = 0;

    private LanguageTest(CompilationUnitTree unit, Trees trees) {
        this.unit = unit;
        this.trees = trees;
    }

    public static void main(String[] args) throws IOException {
        JavaCompiler compiler = ToolProvider.getSystemJavaCompiler();
        StandardJavaFileManager files = compiler.getStandardFileManager(null, null, null);
        JavacTask task = (JavacTask) compiler.getTask(null, files, null, List.of("-proc:none"), null,
            files.getJavaFileObjects(Path.of(SOURCE)));
        for (CompilationUnitTree unit : task.parse()) {
            task.analyze();
            LanguageTest test = new LanguageTest(unit, Trees.instance(task));
            test.scan(unit, null);
            test.depths();
            Due.due("12: at most twelve classes", test.classes > 0 && test.classes <= 12 ? 1 : 0, 1);
        }
        files.close();
        Due.finish("LanguageTest");
    }

    @Override
    public Void scan(Tree tree, Void none) {
        if (tree != null && RULED_OUT.contains(tree.getKind())) {
            Due.due("ruled out, a " + tree.getKind() + ": " + tree, 1, 0);
        }
        return super.scan(tree, none);
    }

    @Override
    public Void visitClass(ClassTree tree, Void none) {
        classes++;
        Tree around = getCurrentPath().getParentPath().getLeaf();
        boolean placed = around == unit || around.getKind() == Tree.Kind.CLASS;
        Due.due("2: no local or anonymous class: " + tree.getSimpleName(), placed ? 1 : 0, 1);
        Element outer = open;
        // what its fields call at once stands under the class itself, and each constructor calls that
        open = elementOf(getCurrentPath());
        callsOf.put(open, new LinkedHashSet<>());
        super.visitClass(tree, none);
        open = outer;
        return null;
    }

    @Override
    public Void visitMethod(MethodTree tree, Void none) {
        Element type = open;
        open = elementOf(getCurrentPath());
        callsOf.put(open, new LinkedHashSet<>());
        if (open.getKind() == ElementKind.CONSTRUCTOR) {
            called(type);
        }
        long start = trees.getSourcePositions().getStartPosition(unit, tree);
        long end = trees.getSourcePositions().getEndPosition(unit, tree);
        // a constructor that javac adds has no place of its own
        if (end >= 0) {
            long lines = unit.getLineMap().getLineNumber(end) - unit.getLineMap().getLineNumber(start) + 1;
            Due.due("11: the " + lines + " lines of " + nameOf(open), lines <= LONGEST ? 1 : 0, 1);
        }
        super.visitMethod(tree, none);
        open = type;
        return null;
    }

    @Override
    public Void visitMethodInvocation(MethodInvocationTree tree, Void none) {
        called(elementOf(getCurrentPath()));
        return super.visitMethodInvocation(tree, none);
    }

    @Override
    public Void visitNewClass(NewClassTree tree, Void none) {
        called(elementOf(getCurrentPath()));
        return super.visitNewClass(tree, none);
    }

    /** A divisor that is a constant, and not 0, needs no look at it before it divides. */
    @Override
    public Void visitBinary(BinaryTree tree, Void none) {
        boolean divides = tree.getKind() == Tree.Kind.DIVIDE || tree.getKind() == Tree.Kind.REMAINDER;
        if (divides) {
            Due.due("7: the divisor of " + tree, isConstant(tree.getRightOperand()) ? 1 : 0, 1);
        }
        return super.visitBinary(tree, none);
    }

    private boolean isConstant(ExpressionTree divisor) {
        if (divisor.getKind() == Tree.Kind.INT_LITERAL) {
            return !divisor.toString().equals("0");
        }
        Element element = elementOf(new TreePath(getCurrentPath(), divisor));
        Object value = element instanceof VariableElement ? ((VariableElement) element).getConstantValue() : null;
        return value != null && !value.equals(0);
    }

    private Element elementOf(TreePath path) {
        return trees.getElement(path);
    }

    private static String nameOf(Element method) {
        return method.getEnclosingElement() + "." + method.getSimpleName();
    }

    private void called(Element method) {
        Set<Element> calls = callsOf.get(open);
        if (calls != null && method != null) {
            calls.add(method);
        }
    }

    private void depths() {
        for (Element method : callsOf.keySet()) {
            List<Element> deepest = deepest(method, new ArrayList<>());
            Due.due("11: calls open at once: " + deepest, deepest.size() <= DEEPEST ? 1 : 0, 1);
        }
    }

    /** The longest chain of the program's own methods that can stand open, those above included. */
    private List<Element> deepest(Element method, List<Element> above) {
        if (above.contains(method)) {
            Due.due("8: a recursion: " + above + " and " + method, 1, 0);
            return List.of();
        }
        List<Element> here = new ArrayList<>(above);
        here.add(method);
        List<Element> longest = here;
        for (Element next : callsOf.get(method)) {
            if (!callsOf.containsKey(next)) {
                Due.due("4: of the library: " + nameOf(next), LIBRARY.contains(nameOf(next)) ? 1 : 0, 1);
                continue;
            }
            List<Element> chain = deepest(next, here);
            longest = chain.size() > longest.size() ? chain : longest;
        }
        return longest;
    }
}
