import com.sun.source.tree.ClassTree;
import com.sun.source.tree.CompilationUnitTree;
import com.sun.source.tree.ImportTree;
import com.sun.source.tree.LineMap;
import com.sun.source.tree.MethodInvocationTree;
import com.sun.source.tree.MethodTree;
import com.sun.source.tree.NewClassTree;
import com.sun.source.tree.ThrowTree;
import com.sun.source.tree.Tree;
import com.sun.source.tree.VariableTree;
import com.sun.source.util.JavacTask;
import com.sun.source.util.TreePath;
import com.sun.source.util.TreePathScanner;
import com.sun.source.util.Trees;
import java.io.File;
import java.util.HashMap;
import java.util.List;
import java.util.Map;
import java.util.Set;
import java.util.TreeSet;
import javax.lang.model.element.Element;
import javax.lang.model.element.ExecutableElement;
import javax.lang.model.element.Modifier;
import javax.tools.ToolProvider;

/** Looks at the source of the class for what ../shared/LANGUAGE.md forbids: not all of it, but what slips in easily. */
public final class LanguageTest extends TreePathScanner<Void, Void> {
    private static final File SOURCE = new File("src/main/java/Warehouselore.java");
    private static final Set<String> LIBRARY = Set.of(
        "ArrayList.<init>", "ArrayList.add", "ArrayList.get", "ArrayList.set", "ArrayList.remove", "ArrayList.size",
        "ArrayList.isEmpty", "ArrayList.clear", "Math.min", "Math.max", "Math.abs", "Arrays.copyOf", "Object.<init>",
        "IndexOutOfBoundsException.<init>", "IllegalArgumentException.<init>", "IllegalStateException.<init>");
    private static final Set<Tree.Kind> FORBIDDEN = Set.of(Tree.Kind.LAMBDA_EXPRESSION, Tree.Kind.MEMBER_REFERENCE,
        Tree.Kind.TRY, Tree.Kind.CATCH, Tree.Kind.ASSERT, Tree.Kind.SYNCHRONIZED, Tree.Kind.SWITCH_EXPRESSION,
        Tree.Kind.TYPE_CAST, Tree.Kind.INSTANCE_OF, Tree.Kind.DIVIDE_ASSIGNMENT, Tree.Kind.REMAINDER_ASSIGNMENT,
        Tree.Kind.STRING_LITERAL, Tree.Kind.DOUBLE_LITERAL);

    private final Checks checks;
    private final Trees trees;
    private final CompilationUnitTree unit;
    private final Map<String, Set<String>> calls = new HashMap<>();
    private final Set<String> names = new TreeSet<>();
    private String method = "";
    private int classes;

    private LanguageTest(Checks checks, Trees trees, CompilationUnitTree unit) {
        this.checks = checks;
        this.trees = trees;
        this.unit = unit;
    }

    public static void main(String[] args) throws Exception {
        Checks checks = new Checks("LanguageTest");
        var compiler = ToolProvider.getSystemJavaCompiler();
        var files = compiler.getStandardFileManager(null, null, null);
        var task = (JavacTask) compiler.getTask(null, files, null, List.of("-proc:none"), null, files.getJavaFileObjects(SOURCE));
        CompilationUnitTree unit = task.parse().iterator().next();
        task.analyze();
        LanguageTest test = new LanguageTest(checks, Trees.instance(task), unit);
        test.scan(unit, null);
        test.depths();
        checks.due("some twelve classes", test.classes <= 13, true);
        checks.close();
    }

    @Override public Void scan(Tree tree, Void v) {
        if (tree != null && FORBIDDEN.contains(tree.getKind())) checks.tell("the source has a " + tree.getKind() + " in " + method);
        return super.scan(tree, v);
    }

    @Override public Void visitImport(ImportTree tree, Void v) {
        String name = tree.getQualifiedIdentifier().toString();
        checks.due("import " + name, Set.of("java.util.ArrayList", "java.util.Arrays", "java.util.List").contains(name), true);
        return null;
    }

    @Override public Void visitClass(ClassTree tree, Void v) {
        classes++;
        int fields = 0;
        for (Tree member : tree.getMembers()) {
            if (!(member instanceof VariableTree field)) continue;
            Set<Modifier> flags = field.getModifiers().getFlags();
            if (!flags.contains(Modifier.STATIC)) fields++;
            else checks.due("the static " + field.getName() + " is final", flags.contains(Modifier.FINAL), true);
        }
        checks.due("some twenty fields in " + tree.getSimpleName(), fields <= 20, true);
        boolean isOuter = getCurrentPath().getParentPath().getLeaf() == unit;
        Set<Modifier> flags = tree.getModifiers().getFlags();
        checks.due(tree.getSimpleName() + " is the public one or static and private",
            isOuter || flags.contains(Modifier.STATIC) && flags.contains(Modifier.PRIVATE), true);
        return super.visitClass(tree, v);
    }

    @Override public Void visitMethod(MethodTree tree, Void v) {
        String outer = method;
        method = name(trees.getElement(getCurrentPath()));
        calls.computeIfAbsent(method, k -> new TreeSet<>());
        LineMap lines = unit.getLineMap();
        long first = trees.getSourcePositions().getStartPosition(unit, tree);
        long last = trees.getSourcePositions().getEndPosition(unit, tree);
        if (first >= 0 && last >= 0)
            checks.due(method + " has at most sixty lines", lines.getLineNumber(last) - lines.getLineNumber(first) < 60, true);
        checks.due(method + " takes at most seven parameters", tree.getParameters().size() <= 7, true);
        boolean isOfFace = tree.getModifiers().getFlags().contains(Modifier.PUBLIC);
        boolean isConstructor = tree.getReturnType() == null;
        if (isOfFace && !isConstructor) names.add(tree.getName().toString());
        super.visitMethod(tree, v);
        method = outer;
        return null;
    }

    @Override public Void visitThrow(ThrowTree tree, Void v) {
        checks.due("no throw in a constructor", method.endsWith("<init>"), false);
        return super.visitThrow(tree, v);
    }

    @Override public Void visitMethodInvocation(MethodInvocationTree tree, Void v) {
        called(new TreePath(getCurrentPath(), tree.getMethodSelect()));
        return super.visitMethodInvocation(tree, v);
    }

    @Override public Void visitNewClass(NewClassTree tree, Void v) {
        called(getCurrentPath());
        return super.visitNewClass(tree, v);
    }

    private void called(TreePath path) {
        Element element = trees.getElement(path);
        String name = name(element);
        boolean isOwn = element.getEnclosingElement().toString().startsWith("Warehouselore");
        if (isOwn) calls.computeIfAbsent(method, k -> new TreeSet<>()).add(name);
        else checks.due("the library's " + name, LIBRARY.contains(name), true);
    }

    private static String name(Element e) {
        return e.getEnclosingElement().getSimpleName() + "." + ((ExecutableElement) e).getSimpleName();
    }

    private void depths() {
        for (String m : calls.keySet()) {
            checks.due("calls below " + m + " go at most eight deep", depth(m, 0) <= 8, true);
            String own = m.substring(m.indexOf('.') + 1);
            checks.due("a class inside has a method of the name " + own, !m.startsWith("Warehouselore.") && names.contains(own), false);
        }
    }

    private int depth(String m, int above) {
        if (above > 20) return 100; // a recursion, of which there is none
        int deepest = 0;
        for (String next : calls.getOrDefault(m, Set.of())) deepest = Math.max(deepest, depth(next, above + 1));
        return 1 + deepest;
    }
}
