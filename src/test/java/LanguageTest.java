import com.sun.source.tree.ArrayTypeTree;
import com.sun.source.tree.AssertTree;
import com.sun.source.tree.CatchTree;
import com.sun.source.tree.ClassTree;
import com.sun.source.tree.CompilationUnitTree;
import com.sun.source.tree.DoWhileLoopTree;
import com.sun.source.tree.ForLoopTree;
import com.sun.source.tree.LambdaExpressionTree;
import com.sun.source.tree.MemberReferenceTree;
import com.sun.source.tree.MethodInvocationTree;
import com.sun.source.tree.MethodTree;
import com.sun.source.tree.NewArrayTree;
import com.sun.source.tree.NewClassTree;
import com.sun.source.tree.SynchronizedTree;
import com.sun.source.tree.ThrowTree;
import com.sun.source.tree.Tree;
import com.sun.source.tree.TryTree;
import com.sun.source.tree.TypeCastTree;
import com.sun.source.tree.VariableTree;
import com.sun.source.tree.WhileLoopTree;
import com.sun.source.util.JavacTask;
import com.sun.source.util.SourcePositions;
import com.sun.source.util.TreePath;
import com.sun.source.util.TreePathScanner;
import com.sun.source.util.Trees;
import java.io.IOException;
import java.nio.file.Path;
import java.util.HashMap;
import java.util.HashSet;
import java.util.List;
import java.util.Map;
import java.util.Set;
import java.util.TreeSet;
import javax.lang.model.element.Element;
import javax.lang.model.element.ElementKind;
import javax.lang.model.element.ExecutableElement;
import javax.lang.model.element.Modifier;
import javax.lang.model.element.VariableElement;
import javax.tools.JavaCompiler;
import javax.tools.StandardJavaFileManager;
import javax.tools.ToolProvider;

/**
 * Holds the class against LANGUAGE.md as the compiler reads it, rule by rule, so far as that can be seen without
 * running it. It is narrower than the rules where the class needs less than they leave: it knows no lists and no
 * texts, and lets only constructors make objects. Runs from the project's folder.
 */
public final class LanguageTest extends TreePathScanner<Void, Void> {
    private static final Path SOURCE = Path.of("src/main/java/TinselRiver.java");
    private static final int MOST_LINES = 60, MOST_PARAMETERS = 7, MOST_CLASSES = 12, MOST_FIELDS = 20, MOST_DEPTH = 8;
    private static final Set<String> NUMBERS = Set.of("int", "long", "boolean", "char", "byte", "short");
    private static final Set<String> LIBRARY = Set.of("java.lang.Math.max", "java.lang.Math.min",
        "java.lang.Integer.bitCount");
    private static final Due DUE = new Due();

    private final Trees trees;
    private final CompilationUnitTree unit;
    private final Set<String> classes = new TreeSet<>();
    private final Set<String> publicNames = new TreeSet<>();
    private final Map<Element, Set<Element>> calls = new HashMap<>();

    private LanguageTest(Trees trees, CompilationUnitTree unit) {
        this.trees = trees;
        this.unit = unit;
    }

    public static void main(String[] args) throws IOException {
        JavaCompiler compiler = ToolProvider.getSystemJavaCompiler();
        try (StandardJavaFileManager files = compiler.getStandardFileManager(null, null, null)) {
            JavacTask task = (JavacTask) compiler.getTask(null, files, null, List.of("--release", "17"), null,
                files.getJavaFileObjects(SOURCE));
            CompilationUnitTree unit = task.parse().iterator().next();
            task.analyze();
            LanguageTest test = new LanguageTest(Trees.instance(task), unit);
            test.look();
        }
        DUE.close();
    }

    private void look() {
        holds(1, "no package line", unit.getPackageName() == null);
        holds(4, "no import", unit.getImports().isEmpty());
        holds(1, "one class at the top", unit.getTypeDecls().size() == 1);
        for (Tree member : ((ClassTree) unit.getTypeDecls().get(0)).getMembers()) {
            if (member instanceof MethodTree method && method.getReturnType() != null
                && method.getModifiers().getFlags().contains(Modifier.PUBLIC)) {
                publicNames.add(method.getName().toString());
            }
        }
        scan(unit, null);
        holds(11, "twelve classes at most, " + classes, classes.size() <= MOST_CLASSES);
        for (Element method : calls.keySet()) {
            int depth = depthOf(method, new HashSet<>());
            holds(11, method + " goes eight deep at most, it goes " + depth, depth <= MOST_DEPTH);
        }
    }

    private static void holds(int rule, String what, boolean so) {
        DUE.about("rule " + rule);
        DUE.is(what, so ? 1 : 0, 1);
    }

    private Element elementOf(Tree tree) {
        return trees.getElement(TreePath.getPath(unit, tree));
    }

    /** The method that a place of the source is in; null in a field's first value. */
    private MethodTree methodAround() {
        for (TreePath path = getCurrentPath(); path != null; path = path.getParentPath()) {
            if (path.getLeaf() instanceof MethodTree method) {
                return method;
            }
        }
        return null;
    }

    private long linesOf(Tree tree) {
        SourcePositions at = trees.getSourcePositions();
        return unit.getLineMap().getLineNumber(at.getEndPosition(unit, tree))
            - unit.getLineMap().getLineNumber(at.getStartPosition(unit, tree)) + 1;
    }

    @Override
    public Void visitClass(ClassTree tree, Void none) {
        String name = tree.getSimpleName().toString();
        Set<Modifier> flags = tree.getModifiers().getFlags();
        classes.add(name);
        boolean top = getCurrentPath().getParentPath().getLeaf() == unit;
        holds(1, name + " is final", flags.contains(Modifier.FINAL));
        holds(1, name + " is public if it is the class of the document", flags.contains(Modifier.PUBLIC) == top);
        holds(2, name + " is static if it is inside", flags.contains(Modifier.STATIC) != top);
        holds(2, name + " is no local and no anonymous class", methodAround() == null && !name.isEmpty());
        int fields = 0;
        for (Tree member : tree.getMembers()) {
            holds(5, name + " has no block of its own", member.getKind() != Tree.Kind.BLOCK);
            if (member instanceof VariableTree field) {
                fields += field.getModifiers().getFlags().contains(Modifier.STATIC) ? 0 : 1;
                lookAtField(name, field, top);
            }
        }
        holds(11, name + " has twenty fields at most", fields <= MOST_FIELDS);
        return super.visitClass(tree, none);
    }

    private void lookAtField(String owner, VariableTree field, boolean top) {
        String name = owner + "." + field.getName();
        Set<Modifier> flags = field.getModifiers().getFlags();
        boolean told = Set.of("UNKNOWN", "OUTSIDE", "STATE", "FULL", "NONE").contains(field.getName().toString());
        holds(1, name + " is private, or a constant of the document",
            top && told ? flags.contains(Modifier.PUBLIC) : flags.contains(Modifier.PRIVATE));
        if (flags.contains(Modifier.STATIC)) {
            holds(5, name + " is final", flags.contains(Modifier.FINAL));
            holds(5, name + " is a number that is written out",
                NUMBERS.contains(field.getType().toString()) && isWrittenOut(field));
        }
    }

    private boolean isWrittenOut(VariableTree field) {
        return ((VariableElement) elementOf(field)).getConstantValue() != null;
    }

    @Override
    public Void visitMethod(MethodTree tree, Void none) {
        Element method = elementOf(tree);
        String name = method.getEnclosingElement().getSimpleName() + "." + tree.getName();
        Set<Modifier> flags = tree.getModifiers().getFlags();
        boolean top = method.getEnclosingElement().getSimpleName().contentEquals("TinselRiver");
        calls.computeIfAbsent(method, any -> new HashSet<>());
        holds(1, name + " is public or private", !top || flags.contains(Modifier.PUBLIC) || flags.contains(Modifier.PRIVATE));
        holds(1, name + " bears no public name", flags.contains(Modifier.PUBLIC)
            || !publicNames.contains(tree.getName().toString()));
        holds(11, name + " has seven parameters at most", tree.getParameters().size() <= MOST_PARAMETERS);
        holds(11, name + " has some sixty lines at most", linesOf(tree) <= MOST_LINES);
        holds(6, name + " declares nothing that is thrown", tree.getThrows().isEmpty());
        return super.visitMethod(tree, none);
    }

    @Override
    public Void visitVariable(VariableTree tree, Void none) {
        Tree type = tree.getType();
        while (type instanceof ArrayTypeTree array) {
            type = array.getType();
            holds(3, tree.getName() + " has one dimension", !(type instanceof ArrayTypeTree));
        }
        boolean own = type != null && elementOf(type) != null && isOwn(elementOf(type));
        holds(3, tree.getName() + " is of a type of the rules", own || NUMBERS.contains(String.valueOf(type)));
        return super.visitVariable(tree, none);
    }

    private static boolean isOwn(Element element) {
        for (Element e = element; e != null; e = e.getEnclosingElement()) {
            if (e.getKind() == ElementKind.CLASS && e.getSimpleName().contentEquals("TinselRiver")) {
                return true;
            }
        }
        return false;
    }

    @Override
    public Void visitMethodInvocation(MethodInvocationTree tree, Void none) {
        Element called = elementOf(tree);
        MethodTree from = methodAround();
        String name = called.getEnclosingElement() + "." + called.getSimpleName();
        boolean making = called.getKind() == ElementKind.CONSTRUCTOR;
        holds(4, name + " is the class's own or of the library that is left", making || isOwn(called) || LIBRARY.contains(name));
        if (from != null && isOwn(called)) {
            calls.computeIfAbsent(elementOf(from), any -> new HashSet<>()).add(called);
        }
        if (from != null && called.equals(elementOf(from))) {
            Set<Modifier> flags = from.getModifiers().getFlags();
            holds(8, name + ", that calls itself, is private and static",
                flags.contains(Modifier.PRIVATE) && flags.contains(Modifier.STATIC));
        }
        return super.visitMethodInvocation(tree, none);
    }

    /** How many calls stand open at most, one that calls itself counted once; another ring has no end here. */
    private int depthOf(Element method, Set<Element> open) {
        if (!open.add(method)) {
            return MOST_DEPTH + 1;
        }
        int deepest = 0;
        for (Element called : calls.getOrDefault(method, Set.of())) {
            deepest = called.equals(method) ? deepest : Math.max(deepest, depthOf(called, open));
        }
        open.remove(method);
        return deepest + 1;
    }

    private void lookAtNew(String what) {
        MethodTree around = methodAround();
        boolean making = around == null || ((ExecutableElement) elementOf(around)).getKind() == ElementKind.CONSTRUCTOR;
        holds(12, what + " is made by a constructor", making);
    }

    @Override
    public Void visitNewClass(NewClassTree tree, Void none) {
        holds(2, "no class without a name, " + tree.getIdentifier(), tree.getClassBody() == null);
        lookAtNew(tree.toString());
        return super.visitNewClass(tree, none);
    }

    @Override
    public Void visitNewArray(NewArrayTree tree, Void none) {
        lookAtNew(tree.toString());
        return super.visitNewArray(tree, none);
    }

    @Override
    public Void visitForLoop(ForLoopTree tree, Void none) {
        holds(9, "a loop has an end, " + tree.getCondition(), tree.getCondition() != null);
        return super.visitForLoop(tree, none);
    }

    @Override
    public Void visitTypeCast(TypeCastTree tree, Void none) {
        holds(7, "a cast is among numbers, " + tree, NUMBERS.contains(tree.getType().toString()));
        return super.visitTypeCast(tree, none);
    }

    private Void ruledOut(int rule, Tree tree) {
        holds(rule, "no " + tree.getKind() + ", " + tree, false);
        return null;
    }

    @Override
    public Void visitWhileLoop(WhileLoopTree tree, Void none) {
        return ruledOut(9, tree);
    }

    @Override
    public Void visitDoWhileLoop(DoWhileLoopTree tree, Void none) {
        return ruledOut(9, tree);
    }

    @Override
    public Void visitLambdaExpression(LambdaExpressionTree tree, Void none) {
        return ruledOut(2, tree);
    }

    @Override
    public Void visitMemberReference(MemberReferenceTree tree, Void none) {
        return ruledOut(2, tree);
    }

    @Override
    public Void visitThrow(ThrowTree tree, Void none) {
        return ruledOut(6, tree);
    }

    @Override
    public Void visitTry(TryTree tree, Void none) {
        return ruledOut(6, tree);
    }

    @Override
    public Void visitCatch(CatchTree tree, Void none) {
        return ruledOut(6, tree);
    }

    @Override
    public Void visitSynchronized(SynchronizedTree tree, Void none) {
        return ruledOut(6, tree);
    }

    @Override
    public Void visitAssert(AssertTree tree, Void none) {
        return ruledOut(6, tree);
    }
}
