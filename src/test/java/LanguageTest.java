import com.sun.source.tree.BinaryTree;
import com.sun.source.tree.ClassTree;
import com.sun.source.tree.CompilationUnitTree;
import com.sun.source.tree.MethodInvocationTree;
import com.sun.source.tree.MethodTree;
import com.sun.source.tree.NewClassTree;
import com.sun.source.tree.Tree;
import com.sun.source.tree.VariableTree;
import com.sun.source.util.JavacTask;
import com.sun.source.util.TreePath;
import com.sun.source.util.TreePathScanner;
import com.sun.source.util.Trees;
import java.io.IOException;
import java.nio.file.Path;
import java.util.EnumSet;
import java.util.HashSet;
import java.util.List;
import java.util.Map;
import java.util.Set;
import java.util.TreeMap;
import java.util.TreeSet;
import javax.lang.model.element.Element;
import javax.lang.model.element.Modifier;
import javax.tools.JavaCompiler;
import javax.tools.StandardJavaFileManager;
import javax.tools.ToolProvider;

/** The rules of LANGUAGE.md that can be seen from what the compiler makes of the class: its calls, types and sizes. */
public final class LanguageTest extends TreePathScanner<Void, String> {
    private static final Set<String> LIBRARY = Set.of("java.util.Arrays.copyOf", "java.lang.System.arraycopy",
            "java.lang.Math.max", "int[].clone", "java.lang.Object.<init>");
    private static final Set<String> TYPES = Set.of("int", "boolean", "char", "int[]", "char[]", "PictureLog.State",
            "PictureLog.State[]", "PictureLog.Page", "PictureLog.Page[]", "PictureLog.Entry", "PictureLog.Entry[]",
            "PictureLog.Log", "PictureLog.Reader");
    /** What the language forbids, and what it allows under conditions but the class does without. */
    private static final EnumSet<Tree.Kind> NEVER = EnumSet.of(Tree.Kind.LAMBDA_EXPRESSION, Tree.Kind.MEMBER_REFERENCE,
            Tree.Kind.THROW, Tree.Kind.TRY, Tree.Kind.SYNCHRONIZED, Tree.Kind.ASSERT, Tree.Kind.TYPE_CAST,
            Tree.Kind.INSTANCE_OF, Tree.Kind.SWITCH_EXPRESSION, Tree.Kind.ENUM, Tree.Kind.RECORD, Tree.Kind.INTERFACE,
            Tree.Kind.ENHANCED_FOR_LOOP, Tree.Kind.STRING_LITERAL, Tree.Kind.DIVIDE_ASSIGNMENT);
    private static final Check check = new Check();

    private final CompilationUnitTree unit;
    private final Trees trees;
    private final Map<String, Set<String>> calls = new TreeMap<>();

    private LanguageTest(CompilationUnitTree unit, Trees trees) {
        this.unit = unit;
        this.trees = trees;
    }

    public static void main(String[] args) throws IOException {
        JavaCompiler compiler = ToolProvider.getSystemJavaCompiler();
        try (StandardJavaFileManager files = compiler.getStandardFileManager(null, null, null)) {
            JavacTask task = (JavacTask) compiler.getTask(null, files, null, List.of("-proc:none"), null,
                    files.getJavaFileObjects(Path.of("src/main/java/PictureLog.java")));
            CompilationUnitTree unit = task.parse().iterator().next();
            task.analyze();
            LanguageTest test = new LanguageTest(unit, Trees.instance(task));
            test.scan(unit, "");
            test.depths();
        }
        check.end();
    }

    private long line(Tree tree, boolean end) {
        long place = end ? trees.getSourcePositions().getEndPosition(unit, tree)
                : trees.getSourcePositions().getStartPosition(unit, tree);
        return unit.getLineMap().getLineNumber(place);
    }

    @Override
    public Void scan(Tree tree, String method) {
        if (tree != null) {
            check.holds("line " + line(tree, false) + " has no " + tree.getKind(), !NEVER.contains(tree.getKind()));
        }
        return super.scan(tree, method);
    }

    @Override
    public Void visitClass(ClassTree tree, String method) {
        boolean inside = getCurrentPath().getParentPath().getLeaf() != unit;
        Set<Modifier> modifiers = tree.getModifiers().getFlags();
        check.sentence("2. static nested classes");
        check.holds(tree.getSimpleName() + " " + modifiers, modifiers.contains(inside ? Modifier.STATIC : Modifier.PUBLIC)
                && (!inside || modifiers.contains(Modifier.PRIVATE)) && modifiers.contains(Modifier.FINAL));
        return super.visitClass(tree, method);
    }

    @Override
    public Void visitMethod(MethodTree tree, String method) {
        String name = name(trees.getElement(getCurrentPath()));
        check.sentence("11. A method takes at most seven parameters. Methods stay short (some sixty lines)");
        check.holds(name, tree.getParameters().size() <= 7 && line(tree, true) - line(tree, false) <= 60);
        calls.computeIfAbsent(name, key -> new TreeSet<>());
        return super.visitMethod(tree, name);
    }

    @Override
    public Void visitVariable(VariableTree tree, String method) {
        String type = trees.getTypeMirror(new TreePath(getCurrentPath(), tree.getType())).toString();
        check.sentence("3. Types");
        check.holds(tree.getName() + " is of the type " + type, TYPES.contains(type));
        check.sentence("5. Static fields are final");
        check.holds(tree.getName().toString(), !tree.getModifiers().getFlags().contains(Modifier.STATIC)
                || tree.getModifiers().getFlags().contains(Modifier.FINAL));
        return super.visitVariable(tree, method);
    }

    @Override
    public Void visitMethodInvocation(MethodInvocationTree tree, String method) {
        called(new TreePath(getCurrentPath(), tree.getMethodSelect()), method);
        return super.visitMethodInvocation(tree, method);
    }

    @Override
    public Void visitNewClass(NewClassTree tree, String method) {
        called(getCurrentPath(), method);
        return super.visitNewClass(tree, method);
    }

    @Override
    public Void visitBinary(BinaryTree tree, String method) {
        String type = trees.getTypeMirror(getCurrentPath()).toString();
        check.sentence("10. joining texts by StringBuilder (not by +)");
        check.holds(tree + " is of the type " + type, type.equals("int") || type.equals("boolean"));
        check.sentence("7. a divisor before it divides");
        if (tree.getKind() == Tree.Kind.DIVIDE || tree.getKind() == Tree.Kind.REMAINDER) {
            String divisor = tree.getRightOperand().toString();
            check.holds(tree + " divides by a constant", divisor.matches("[1-9]\\d*|[A-Z][A-Z_]*"));
        }
        return super.visitBinary(tree, method);
    }

    private void called(TreePath path, String method) {
        String name = name(trees.getElement(path));
        if (name.startsWith("PictureLog")) {
            calls.computeIfAbsent(method, key -> new TreeSet<>()).add(name);
        } else {
            String owner = name.startsWith("Array.") ? "int[].clone" : name;
            check.sentence("4. The library: only what stands here.");
            check.holds(owner, LIBRARY.contains(owner));
        }
    }

    private static String name(Element method) {
        return method.getEnclosingElement() + "." + method.getSimpleName();
    }

    private void depths() {
        check.sentence("11. calls that are no recursion go at most eight deep");
        for (String method : calls.keySet()) {
            int depth = depth(method, new HashSet<>());
            check.holds(method + " goes " + depth + " deep", depth <= 8);
        }
        check.holds("the calls are found", calls.size() > 50);
    }

    /** The calls that stand open at once, this one among them; a great number if it calls itself. */
    private int depth(String method, Set<String> open) {
        if (!open.add(method)) {
            return 1000;
        }
        int most = 0;
        for (String called : calls.getOrDefault(method, Set.of())) {
            most = Math.max(most, depth(called, open));
        }
        open.remove(method);
        return most + 1;
    }
}
