import com.sun.source.tree.AssertTree;
import com.sun.source.tree.CatchTree;
import com.sun.source.tree.ClassTree;
import com.sun.source.tree.CompilationUnitTree;
import com.sun.source.tree.ImportTree;
import com.sun.source.tree.LambdaExpressionTree;
import com.sun.source.tree.MemberReferenceTree;
import com.sun.source.tree.MethodInvocationTree;
import com.sun.source.tree.MethodTree;
import com.sun.source.tree.NewArrayTree;
import com.sun.source.tree.NewClassTree;
import com.sun.source.tree.SynchronizedTree;
import com.sun.source.tree.ThrowTree;
import com.sun.source.tree.Tree;
import com.sun.source.tree.TryTree;
import com.sun.source.tree.VariableTree;
import com.sun.source.util.JavacTask;
import com.sun.source.util.TreePathScanner;
import com.sun.source.util.Trees;
import java.io.File;
import java.io.IOException;
import java.util.HashSet;
import java.util.List;
import java.util.Map;
import java.util.Set;
import java.util.TreeMap;
import java.util.TreeSet;
import javax.lang.model.element.Element;
import javax.lang.model.element.ElementKind;
import javax.lang.model.element.ExecutableElement;
import javax.lang.model.element.Modifier;
import javax.lang.model.element.TypeElement;
import javax.tools.JavaCompiler;
import javax.tools.StandardJavaFileManager;
import javax.tools.ToolProvider;

/**
 * LANGUAGE.md, as far as the text of the class shows it; the face (rule 1) is in FaceTest. Where the class needs less
 * than the rules leave it (types, the library, what calls make), no more than it needs is let through.
 */
public final class LanguageTest extends TreePathScanner<Void, Void> {
    private static final String FILE = "src/main/java/CutSheets.java";
    private static final Set<String> TYPES = Set.of("int", "boolean", "int[]", "Sheet", "Sheet[]", "Reading", "Look",
            "Groups");
    private static final Set<String> THROWN = Set.of("IllegalArgumentException", "IllegalStateException",
            "UnsupportedOperationException", "IndexOutOfBoundsException");

    private final CompilationUnitTree unit;
    private final Trees trees;
    private final Map<String, Set<String>> calls = new TreeMap<>();
    private final Set<String> hidden = new HashSet<>();
    private final Set<String> hiddenStatic = new HashSet<>();
    private String method = "";
    private int classes = 0;

    private LanguageTest(CompilationUnitTree unit, Trees trees) {
        this.unit = unit;
        this.trees = trees;
    }

    public static void main(String[] args) throws IOException {
        JavaCompiler compiler = ToolProvider.getSystemJavaCompiler();
        try (StandardJavaFileManager files = compiler.getStandardFileManager(null, null, null)) {
            JavacTask task = (JavacTask) compiler.getTask(null, files, null, List.of("--release", "17", "-proc:none"),
                    null, files.getJavaFileObjects(new File(FILE)));
            CompilationUnitTree unit = task.parse().iterator().next();
            task.analyze();
            LanguageTest test = new LanguageTest(unit, Trees.instance(task));
            test.scan(unit, null);
            test.callsAreFewDeep();
            test.fits("rule 11, classes", test.classes <= 12);
        }
        Calls.end();
    }

    private void fits(String what, boolean fine) {
        Calls.due("LanguageTest", what, fine ? "fine" : "not as it should be", "fine");
    }

    @Override
    public Void visitImport(ImportTree tree, Void none) {
        fits("rule 4, " + tree, false);
        return super.visitImport(tree, none);
    }

    @Override
    public Void visitClass(ClassTree tree, Void none) {
        classes++;
        long fields = tree.getMembers().stream().filter(x -> x instanceof VariableTree v
                && !v.getModifiers().getFlags().contains(Modifier.STATIC)).count();
        fits("rule 11, fields of " + tree.getSimpleName(), fields <= 20);
        fits("rule 2, " + tree.getSimpleName() + " stands alone",
                classes == 1 || tree.getModifiers().getFlags().contains(Modifier.STATIC));
        fits("rule 5, initialiser of " + tree.getSimpleName(),
                tree.getMembers().stream().noneMatch(x -> x.getKind() == Tree.Kind.BLOCK));
        return super.visitClass(tree, none);
    }

    @Override
    public Void visitVariable(VariableTree tree, Void none) {
        fits("rule 3, type of " + tree, TYPES.contains(String.valueOf(tree.getType())));
        Set<Modifier> flags = tree.getModifiers().getFlags();
        fits("rule 5, " + tree, !flags.contains(Modifier.STATIC)
                || flags.contains(Modifier.FINAL) && tree.getType().toString().equals("int"));
        return super.visitVariable(tree, none);
    }

    @Override
    public Void visitMethod(MethodTree tree, Void none) {
        Element element = trees.getElement(getCurrentPath());
        String before = method;
        method = nameOf(element);
        calls.putIfAbsent(method, new TreeSet<>());
        if (element.getModifiers().contains(Modifier.PRIVATE)) {
            hidden.add(method);
            if (element.getModifiers().contains(Modifier.STATIC)) {
                hiddenStatic.add(method);
            }
        }
        fits("rule 11, parameters of " + method, tree.getParameters().size() <= 7);
        fits("rule 11, lines of " + method, linesOf(tree) <= 60);
        super.visitMethod(tree, none);
        method = before;
        return null;
    }

    private long linesOf(Tree tree) {
        long begin = trees.getSourcePositions().getStartPosition(unit, tree);
        long end = trees.getSourcePositions().getEndPosition(unit, tree);
        return end < 0 ? 0 : unit.getLineMap().getLineNumber(end) - unit.getLineMap().getLineNumber(begin) + 1;
    }

    private static String nameOf(Element element) {
        return element.getEnclosingElement().getSimpleName() + "." + element.getSimpleName();
    }

    @Override
    public Void visitMethodInvocation(MethodInvocationTree tree, Void none) {
        noteCall(trees.getElement(getCurrentPath()));
        return super.visitMethodInvocation(tree, none);
    }

    @Override
    public Void visitNewClass(NewClassTree tree, Void none) {
        noteCall(trees.getElement(getCurrentPath()));
        fits("rule 12, made in a call: " + tree, !isInCall() || isThrown(tree));
        return super.visitNewClass(tree, none);
    }

    @Override
    public Void visitNewArray(NewArrayTree tree, Void none) {
        fits("rule 12, made in a call: " + tree, !isInCall());
        return super.visitNewArray(tree, none);
    }

    private boolean isInCall() {
        return !method.isEmpty() && !method.endsWith("<init>");
    }

    private boolean isThrown(NewClassTree tree) {
        return getCurrentPath().getParentPath().getLeaf() instanceof ThrowTree
                && THROWN.contains(tree.getIdentifier().toString()) && tree.getArguments().isEmpty();
    }

    private void noteCall(Element called) {
        if (called instanceof ExecutableElement && isOwn(called)) {
            calls.computeIfAbsent(method, key -> new TreeSet<>()).add(nameOf(called));
        } else {
            String name = nameOf(called);
            boolean made = called.getKind() == ElementKind.CONSTRUCTOR
                    && (THROWN.contains(called.getEnclosingElement().getSimpleName().toString())
                    || name.equals("Object.<init>"));
            fits("rule 4, " + name, made || name.equals("System.arraycopy"));
        }
    }

    private static boolean isOwn(Element element) {
        Element at = element.getEnclosingElement();
        while (at instanceof TypeElement type) {
            if (type.getQualifiedName().contentEquals("CutSheets")) {
                return true;
            }
            at = type.getEnclosingElement();
        }
        return false;
    }

    @Override
    public Void visitThrow(ThrowTree tree, Void none) {
        fits("rule 6, " + tree, tree.getExpression() instanceof NewClassTree && isInCall());
        return super.visitThrow(tree, none);
    }

    @Override
    public Void visitTry(TryTree tree, Void none) {
        fits("rule 6, nothing is caught", false);
        return super.visitTry(tree, none);
    }

    @Override
    public Void visitCatch(CatchTree tree, Void none) {
        fits("rule 6, nothing is caught", false);
        return super.visitCatch(tree, none);
    }

    @Override
    public Void visitSynchronized(SynchronizedTree tree, Void none) {
        fits("rule 6, synchronized", false);
        return super.visitSynchronized(tree, none);
    }

    @Override
    public Void visitAssert(AssertTree tree, Void none) {
        fits("rule 6, assert", false);
        return super.visitAssert(tree, none);
    }

    @Override
    public Void visitLambdaExpression(LambdaExpressionTree tree, Void none) {
        fits("rule 2, " + tree, false);
        return super.visitLambdaExpression(tree, none);
    }

    @Override
    public Void visitMemberReference(MemberReferenceTree tree, Void none) {
        fits("rule 2, " + tree, false);
        return super.visitMemberReference(tree, none);
    }

    /** Rules 8 and 11: what calls itself, straight or through others, is private, and other calls go eight deep. */
    private void callsAreFewDeep() {
        for (String name : calls.keySet()) {
            fits("rule 8, " + name + " calls itself", !calls.get(name).contains(name) || hiddenStatic.contains(name));
            fits("rule 8, " + name + " comes back to itself", !reached(name).contains(name) || hidden.contains(name));
            fits("rule 11, calls from " + name, depthFrom(name, new HashSet<>()) <= 8);
        }
    }

    private Set<String> reached(String name) {
        Set<String> found = new HashSet<>();
        gather(name, found);
        return found;
    }

    private void gather(String name, Set<String> found) {
        for (String next : calls.getOrDefault(name, Set.of())) {
            if (found.add(next)) {
                gather(next, found);
            }
        }
    }

    /** How many calls stand open at most, when none is counted that comes back to one that stands open. */
    private int depthFrom(String name, Set<String> open) {
        open.add(name);
        int most = 0;
        for (String next : calls.getOrDefault(name, Set.of())) {
            if (!open.contains(next)) {
                most = Math.max(most, depthFrom(next, open));
            }
        }
        open.remove(name);
        return most + 1;
    }
}
