import com.sun.source.tree.AssertTree;
import com.sun.source.tree.BlockTree;
import com.sun.source.tree.ClassTree;
import com.sun.source.tree.CompilationUnitTree;
import com.sun.source.tree.ImportTree;
import com.sun.source.tree.LambdaExpressionTree;
import com.sun.source.tree.MemberReferenceTree;
import com.sun.source.tree.MethodInvocationTree;
import com.sun.source.tree.MethodTree;
import com.sun.source.tree.NewClassTree;
import com.sun.source.tree.SynchronizedTree;
import com.sun.source.tree.ThrowTree;
import com.sun.source.tree.Tree;
import com.sun.source.tree.TryTree;
import com.sun.source.tree.VariableTree;
import com.sun.source.util.JavacTask;
import com.sun.source.util.SourcePositions;
import com.sun.source.util.TreePathScanner;
import com.sun.source.util.Trees;
import java.io.IOException;
import java.nio.file.Path;
import java.util.List;
import java.util.Map;
import java.util.Set;
import java.util.TreeMap;
import java.util.TreeSet;
import javax.lang.model.element.Element;
import javax.lang.model.element.Modifier;
import javax.tools.JavaCompiler;
import javax.tools.StandardJavaFileManager;
import javax.tools.ToolProvider;

/**
 * The rules of LANGUAGE.md that can be seen from the program's source. It is stricter than they are
 * where the program needs less: no import, no try and no call of the library at all.
 */
public final class LanguageTest extends TreePathScanner<Void, Void> {
    private static final Set<String> EXCEPTIONS = Set.of("IllegalStateException", "IllegalArgumentException",
            "IndexOutOfBoundsException", "ArithmeticException", "UnsupportedOperationException",
            "NoSuchElementException", "RuntimeException");
    private static final int MOST_CLASSES = 12;
    private static final int MOST_FIELDS = 20;
    private static final int MOST_PARAMETERS = 7;
    private static final int MOST_LINES = 60;
    private static final int MOST_DEPTH = 8;

    private final Due due = new Due();
    private final Trees trees;
    private final SourcePositions positions;
    private final Map<String, Set<String>> callees = new TreeMap<>();
    private int classes;
    private String method = "";

    private LanguageTest(Trees trees) {
        this.trees = trees;
        positions = trees.getSourcePositions();
    }

    public static void main(String[] args) throws IOException {
        JavaCompiler compiler = ToolProvider.getSystemJavaCompiler();
        try (StandardJavaFileManager files = compiler.getStandardFileManager(null, null, null)) {
            JavacTask task = (JavacTask) compiler.getTask(null, files, null, List.of("--release", "17", "-proc:none"), null,
                    files.getJavaFileObjects(Path.of("src/main/java/SlotScreen.java")));
            LanguageTest test = new LanguageTest(Trees.instance(task));
            Iterable<? extends CompilationUnitTree> units = task.parse();
            task.analyze();
            for (CompilationUnitTree unit : units) {
                test.scan(unit, null);
            }
            test.end();
        }
    }

    private void end() {
        due.is("rule 11: at most some twelve classes", classes <= MOST_CLASSES, true);
        for (String m : callees.keySet()) {
            int depth = depthOf(m, 0);
            due.is("rule 11: calls from " + m + " go at most eight deep (" + depth + ")", depth <= MOST_DEPTH, true);
        }
        due.end();
    }

    private int depthOf(String m, int above) {
        int deepest = 0;
        if (above <= MOST_DEPTH) {
            for (String callee : callees.getOrDefault(m, Set.of())) {
                deepest = Math.max(deepest, depthOf(callee, above + 1));
            }
        }
        return deepest + 1;
    }

    private long lineOf(Tree tree, boolean isEnd) {
        CompilationUnitTree unit = getCurrentPath().getCompilationUnit();
        long at = isEnd ? positions.getEndPosition(unit, tree) : positions.getStartPosition(unit, tree);
        return unit.getLineMap().getLineNumber(at);
    }

    private void refuse(String rule, Tree tree) {
        due.tell("line " + lineOf(tree, false) + " is against rule " + rule);
    }

    /** A method's name with its class, as the call graph knows it. */
    private static String nameOf(Element m) {
        return m.getEnclosingElement().getSimpleName() + "." + m.getSimpleName();
    }

    @Override
    public Void visitCompilationUnit(CompilationUnitTree unit, Void none) {
        due.is("no package line", unit.getPackageName() == null, true);
        due.is("one class in the file", unit.getTypeDecls().size(), 1);
        return super.visitCompilationUnit(unit, none);
    }

    @Override
    public Void visitImport(ImportTree tree, Void none) {
        refuse("4: the program needs no library", tree);
        return super.visitImport(tree, none);
    }

    @Override
    public Void visitClass(ClassTree tree, Void none) {
        classes++;
        Set<Modifier> flags = tree.getModifiers().getFlags();
        if (getCurrentPath().getParentPath().getLeaf() instanceof ClassTree
                && (!flags.contains(Modifier.STATIC) || flags.contains(Modifier.PUBLIC) || flags.contains(Modifier.PROTECTED))) {
            refuse("1: a class inside is static, and private or package-visible", tree);
        }
        int fields = 0;
        for (Tree member : tree.getMembers()) {
            if (member instanceof BlockTree) {
                refuse("5: no initialiser block", member);
            }
            if (member instanceof VariableTree) {
                fields += fieldCount((VariableTree) member);
            }
        }
        due.is("rule 11: at most some twenty fields in " + tree.getSimpleName(), fields <= MOST_FIELDS, true);
        checkNames(tree);
        return super.visitClass(tree, none);
    }

    /** 1 for a field of each object, 0 for a constant. */
    private int fieldCount(VariableTree field) {
        Set<Modifier> flags = field.getModifiers().getFlags();
        if (!flags.contains(Modifier.STATIC)) {
            return 1;
        }
        if (!flags.contains(Modifier.FINAL)) {
            refuse("5: static fields are final", field);
        }
        return 0;
    }

    private void checkNames(ClassTree tree) {
        Set<String> open = new TreeSet<>();
        Set<String> hidden = new TreeSet<>();
        for (Tree member : tree.getMembers()) {
            if (member instanceof MethodTree) {
                MethodTree m = (MethodTree) member;
                Set<Modifier> flags = m.getModifiers().getFlags();
                (flags.contains(Modifier.PUBLIC) ? open : hidden).add(m.getName().toString());
            }
        }
        hidden.retainAll(open);
        due.is("rule 1: private methods with a public one's name", hidden.toString(), "[]");
    }

    @Override
    public Void visitMethod(MethodTree tree, Void none) {
        method = nameOf(trees.getElement(getCurrentPath()));
        callees.putIfAbsent(method, new TreeSet<>());
        if (tree.getParameters().size() > MOST_PARAMETERS) {
            refuse("11: at most seven parameters", tree);
        }
        // A constructor that isn't written has no lines.
        if (tree.getBody() != null && lineOf(tree, true) - lineOf(tree, false) >= MOST_LINES) {
            refuse("11: methods stay short", tree);
        }
        return super.visitMethod(tree, none);
    }

    @Override
    public Void visitMethodInvocation(MethodInvocationTree tree, Void none) {
        Element called = trees.getElement(getCurrentPath());
        if (called == null) {
            refuse("4: the call of something unknown", tree);
        } else if (!called.getSimpleName().contentEquals("<init>")) {
            if (!isOwn(called)) {
                refuse("4: the program needs no library", tree);
            }
            noteCall(called);
        }
        return super.visitMethodInvocation(tree, none);
    }

    private static boolean isOwn(Element e) {
        Element outer = e;
        while (outer.getEnclosingElement() != null && !outer.getSimpleName().contentEquals("SlotScreen")) {
            outer = outer.getEnclosingElement();
        }
        return outer.getSimpleName().contentEquals("SlotScreen");
    }

    /** A call of a device's method may be one of any kind of device. */
    private void noteCall(Element called) {
        callees.computeIfAbsent(method, m -> new TreeSet<>()).add(nameOf(called));
        if (called.getEnclosingElement().getSimpleName().contentEquals("Device")) {
            for (String kind : List.of("Ram", "Rom", "Banks")) {
                callees.get(method).add(kind + "." + called.getSimpleName());
            }
        }
    }

    @Override
    public Void visitNewClass(NewClassTree tree, Void none) {
        Element made = trees.getElement(getCurrentPath());
        if (made != null && isOwn(made)) {
            callees.computeIfAbsent(method, m -> new TreeSet<>()).add(nameOf(made));
        } else if (!(getCurrentPath().getParentPath().getLeaf() instanceof ThrowTree)) {
            refuse("4: the program needs no library", tree);
        }
        return super.visitNewClass(tree, none);
    }

    @Override
    public Void visitThrow(ThrowTree tree, Void none) {
        boolean isPlain = tree.getExpression() instanceof NewClassTree
                && EXCEPTIONS.contains(((NewClassTree) tree.getExpression()).getIdentifier().toString());
        if (!isPlain || method.endsWith(".<init>")) {
            refuse("6: throw new E(), and in no constructor", tree);
        }
        return super.visitThrow(tree, none);
    }

    @Override
    public Void visitTry(TryTree tree, Void none) {
        refuse("6: the program needs no try", tree);
        return super.visitTry(tree, none);
    }

    @Override
    public Void visitAssert(AssertTree tree, Void none) {
        refuse("6: no assert", tree);
        return super.visitAssert(tree, none);
    }

    @Override
    public Void visitSynchronized(SynchronizedTree tree, Void none) {
        refuse("6: no synchronized", tree);
        return super.visitSynchronized(tree, none);
    }

    @Override
    public Void visitLambdaExpression(LambdaExpressionTree tree, Void none) {
        refuse("2: no lambda", tree);
        return super.visitLambdaExpression(tree, none);
    }

    @Override
    public Void visitMemberReference(MemberReferenceTree tree, Void none) {
        refuse("2: no method reference", tree);
        return super.visitMemberReference(tree, none);
    }
}
