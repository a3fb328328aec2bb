import com.sun.source.tree.AssertTree;
import com.sun.source.tree.BlockTree;
import com.sun.source.tree.ClassTree;
import com.sun.source.tree.CompilationUnitTree;
import com.sun.source.tree.ImportTree;
import com.sun.source.tree.LambdaExpressionTree;
import com.sun.source.tree.MemberReferenceTree;
import com.sun.source.tree.MethodInvocationTree;
import com.sun.source.tree.MethodTree;
import com.sun.source.tree.NewClassTree;
import com.sun.source.tree.SynchronizedTree;
import com.sun.source.tree.ThrowTree;
import com.sun.source.tree.Tree;
import com.sun.source.tree.TryTree;
import com.sun.source.tree.VariableTree;
import com.sun.source.util.JavacTask;
import com.sun.source.util.TreePathScanner;
import com.sun.source.util.Trees;
import java.nio.file.Path;
import java.util.HashMap;
import java.util.HashSet;
import java.util.LinkedHashMap;
import java.util.List;
import java.util.Map;
import java.util.Set;
import javax.lang.model.element.Element;
import javax.lang.model.element.ElementKind;
import javax.lang.model.element.Modifier;
import javax.tools.JavaCompiler;
import javax.tools.StandardJavaFileManager;
import javax.tools.ToolProvider;

/** Rules of ../shared/LANGUAGE.md that the program's text shows. .ci/run starts it in the project's folder. */
public final class LanguageTest extends TreePathScanner<Void, Void> {
    private static final int MOST_PARAMETERS = 7, MOST_LINES = 60, MOST_DEEP = 8, MOST_CLASSES = 12, MOST_FIELDS = 20;

    /** Rule 4: what may be called of each class of the library. */
    private static final Map<String, String> LIBRARY = Map.of(
        "java.lang.String", "length|charAt|isEmpty|equals|indexOf|substring|toCharArray",
        "java.lang.StringBuilder", "append|charAt|setCharAt|setLength|deleteCharAt|reverse|length|toString",
        "java.lang.System", "arraycopy",
        "java.lang.Math", "(?!.*Exact|random).*",
        "java.lang.Integer", "(?!.*Exact|get|parse|decode).*",
        "java.lang.Long", "(?!.*Exact|get|parse|decode).*",
        "java.util.Arrays", "copyOf|copyOfRange|fill",
        "java.util.ArrayList", "add|get|set|remove|size|isEmpty|clear",
        "java.util.List", "add|get|set|remove|size|isEmpty|clear|of");

    private final CompilationUnitTree unit;
    private final Trees trees;
    private final Map<Element, Set<Element>> calls = new LinkedHashMap<>();
    private final Map<Element, Integer> depths = new HashMap<>();
    private Element method;
    private int classes;

    private LanguageTest(CompilationUnitTree unit, Trees trees) {
        this.unit = unit;
        this.trees = trees;
    }

    public static void main(String[] args) throws Exception {
        JavaCompiler compiler = ToolProvider.getSystemJavaCompiler();
        try (StandardJavaFileManager files = compiler.getStandardFileManager(null, null, null)) {
            JavacTask task = (JavacTask) compiler.getTask(null, files, null, List.of("-proc:none"), null,
                files.getJavaFileObjects(Path.of("src/main/java/IdeasDeck.java")));
            CompilationUnitTree unit = task.parse().iterator().next();
            task.analyze();
            LanguageTest rules = new LanguageTest(unit, Trees.instance(task));
            rules.scan(unit, null);
            rules.plainSigns();
            rules.callsAreNotDeep();
            Due.isTrue("rule 11: some twelve classes, not " + rules.classes, rules.classes <= MOST_CLASSES);
        }
        Due.end();
    }

    private void none(String rule, Tree tree) {
        Due.isTrue(rule + " in line " + line(trees.getSourcePositions().getStartPosition(unit, tree)), false);
    }

    private long line(long position) {
        return unit.getLineMap().getLineNumber(position);
    }

    // ---- what may not be

    @Override
    public Void visitThrow(ThrowTree tree, Void none) {
        none("rule 6: no throw", tree);
        return super.visitThrow(tree, none);
    }

    @Override
    public Void visitTry(TryTree tree, Void none) {
        none("rule 6: no try", tree);
        return super.visitTry(tree, none);
    }

    @Override
    public Void visitSynchronized(SynchronizedTree tree, Void none) {
        none("rule 6: no synchronized", tree);
        return super.visitSynchronized(tree, none);
    }

    @Override
    public Void visitAssert(AssertTree tree, Void none) {
        none("rule 6: no assert", tree);
        return super.visitAssert(tree, none);
    }

    @Override
    public Void visitLambdaExpression(LambdaExpressionTree tree, Void none) {
        none("rule 2: no lambda", tree);
        return super.visitLambdaExpression(tree, none);
    }

    @Override
    public Void visitMemberReference(MemberReferenceTree tree, Void none) {
        none("rule 2: no method reference", tree);
        return super.visitMemberReference(tree, none);
    }

    @Override
    public Void visitImport(ImportTree tree, Void none) {
        Due.isTrue("rule 4: " + tree, tree.getQualifiedIdentifier().toString()
            .matches("java\\.util\\.(ArrayList|List|Arrays|Iterator)"));
        return super.visitImport(tree, none);
    }

    @Override
    public Void visitBlock(BlockTree tree, Void none) {
        if (tree.isStatic()) none("rule 5: no static block", tree);
        return super.visitBlock(tree, none);
    }

    // ---- how much may be

    @Override
    public Void visitClass(ClassTree tree, Void none) {
        classes++;
        Element it = trees.getElement(getCurrentPath());
        int fields = 0;
        for (Element inside : it.getEnclosedElements()) {
            boolean isField = inside.getKind() == ElementKind.FIELD;
            boolean isStatic = inside.getModifiers().contains(Modifier.STATIC);
            if (isField && !isStatic) fields++;
            if (isField && isStatic) {
                Due.isTrue("rule 5: " + inside + " is final", inside.getModifiers().contains(Modifier.FINAL));
            }
        }
        Due.isTrue("rule 11: some twenty fields in " + it, fields <= MOST_FIELDS);
        Element outside = it.getEnclosingElement();
        if (outside.getKind() != ElementKind.PACKAGE) {
            Due.isTrue("rule 2: " + it + " is static", it.getModifiers().contains(Modifier.STATIC));
            Due.isTrue("rule 2: " + it + " is not local", outside.getKind().isClass());
        }
        return super.visitClass(tree, none);
    }

    @Override
    public Void visitMethod(MethodTree tree, Void none) {
        Element outer = method;
        method = trees.getElement(getCurrentPath());
        calls.putIfAbsent(method, new HashSet<>());
        Due.isTrue("rule 11: seven parameters of " + method, tree.getParameters().size() <= MOST_PARAMETERS);
        long first = trees.getSourcePositions().getStartPosition(unit, tree);
        long last = trees.getSourcePositions().getEndPosition(unit, tree);
        if (last >= first) Due.isTrue("rule 11: some sixty lines of " + method, line(last) - line(first) < MOST_LINES);
        super.visitMethod(tree, none);
        method = outer;
        return null;
    }

    @Override
    public Void visitVariable(VariableTree tree, Void none) {
        String type = String.valueOf(tree.getType());
        Due.isTrue("rule 3: the type of " + tree.getName() + " in line "
            + line(trees.getSourcePositions().getStartPosition(unit, tree)), !type.matches("var|Object|Long|Double"));
        return super.visitVariable(tree, none);
    }

    @Override
    public Void visitMethodInvocation(MethodInvocationTree tree, Void none) {
        Element called = trees.getElement(new com.sun.source.util.TreePath(getCurrentPath(), tree.getMethodSelect()));
        if (called != null) {
            if (method != null) calls.get(method).add(called);
            library(called);
        }
        return super.visitMethodInvocation(tree, none);
    }

    @Override
    public Void visitNewClass(NewClassTree tree, Void none) {
        Element called = trees.getElement(getCurrentPath());
        if (method != null && called != null) calls.get(method).add(called);
        return super.visitNewClass(tree, none);
    }

    private void library(Element called) {
        String of = String.valueOf(called.getEnclosingElement()).replaceAll("<.*", "");
        String name = called.getSimpleName().toString();
        boolean isOwn = of.matches("IdeasDeck(\\..*)?");
        boolean isImplied = of.equals("java.lang.Object") && name.equals("<init>");
        if (isOwn || isImplied) return;
        Due.isTrue("rule 4: " + of + "." + name, name.matches(LIBRARY.getOrDefault(of, "none")));
    }

    private void plainSigns() throws Exception {
        String source = unit.getSourceFile().getCharContent(true).toString();
        for (int i = 0; i < source.length(); i++) {
            if (source.charAt(i) > 126) Due.isTrue("rule 4: only plain signs, not in line " + line(i), false);
        }
    }

    private void callsAreNotDeep() {
        for (Element each : calls.keySet()) {
            int deep = depth(each, new HashSet<>());
            Due.isTrue("rule 11: calls from " + each + " go " + deep + " deep", deep <= MOST_DEEP);
        }
    }

    /** Calls of the program's own methods, this one too; a method that stands open already is a recursion. */
    private int depth(Element from, Set<Element> open) {
        if (!calls.containsKey(from) || !open.add(from)) return 0;
        Integer known = depths.get(from);
        int deepest = 0;
        if (known == null) {
            for (Element called : calls.get(from)) deepest = Math.max(deepest, depth(called, open));
            known = 1 + deepest;
            depths.put(from, known);
        }
        open.remove(from);
        return known;
    }
}
