import com.sun.source.tree.AssertTree;
import com.sun.source.tree.ClassTree;
import com.sun.source.tree.CompilationUnitTree;
import com.sun.source.tree.ForLoopTree;
import com.sun.source.tree.ImportTree;
import com.sun.source.tree.LambdaExpressionTree;
import com.sun.source.tree.MemberReferenceTree;
import com.sun.source.tree.MethodInvocationTree;
import com.sun.source.tree.MethodTree;
import com.sun.source.tree.NewClassTree;
import com.sun.source.tree.SynchronizedTree;
import com.sun.source.tree.ThrowTree;
import com.sun.source.tree.Tree;
import com.sun.source.tree.TryTree;
import com.sun.source.tree.VariableTree;
import com.sun.source.util.JavacTask;
import com.sun.source.util.TreePath;
import com.sun.source.util.TreePathScanner;
import com.sun.source.util.Trees;
import java.io.IOException;
import java.nio.file.Files;
import java.nio.file.Path;
import java.util.HashMap;
import java.util.List;
import java.util.Map;
import java.util.Set;
import java.util.TreeSet;
import javax.lang.model.element.Element;
import javax.lang.model.element.Modifier;
import javax.tools.JavaCompiler;
import javax.tools.StandardJavaFileManager;
import javax.tools.ToolProvider;

/** The rules of LANGUAGE.md that can be read off the program's text: its face, its forms, its sizes, its depth. */
public final class LanguageTest extends TreePathScanner<Void, Void> {
    private static final Path SOURCE = Path.of("src/main/java/LateClaims.java");
    /** What the program uses of the library; more of it may be added here as LANGUAGE.md allows. */
    private static final Set<String> LIBRARY = Set.of("java.lang.Math.max(int,int)", "java.lang.Math.min(int,int)",
        "java.lang.Math.abs(int)", "java.util.Arrays.fill(int[],int)", "Array.clone()");
    private static final Set<String> STATICS = Set.of("int", "long", "boolean", "char", "String", "int[]", "long[]", "char[]", "byte[]");

    private final Due due;
    private final Trees trees;
    private final CompilationUnitTree unit;
    private final Set<String> face = new TreeSet<>();
    private final Set<String> publicNames = new TreeSet<>();
    private final Set<String> privateNames = new TreeSet<>();
    private final Map<String, Set<String>> calls = new HashMap<>();
    private String method = null;
    private int classes = 0;

    private LanguageTest(Due due, Trees trees, CompilationUnitTree unit) {
        this.due = due;
        this.trees = trees;
        this.unit = unit;
    }

    public static void main(String[] args) throws IOException {
        Due due = new Due();
        JavaCompiler javac = ToolProvider.getSystemJavaCompiler();
        try (StandardJavaFileManager files = javac.getStandardFileManager(null, null, null)) {
            JavacTask task = (JavacTask) javac.getTask(null, files, null, List.of("-proc:none"), null, files.getJavaFileObjects(SOURCE));
            CompilationUnitTree unit = task.parse().iterator().next();
            task.analyze();
            LanguageTest test = new LanguageTest(due, Trees.instance(task), unit);
            test.scan(unit, null);
            test.wholeFile();
        }
        signs(due);
        due.end();
    }

    private static void signs(Due due) throws IOException {
        boolean plain = true;
        for (byte sign : Files.readAllBytes(SOURCE)) plain &= sign > 0;
        due.holds("all signs are 1 to 127", plain);
    }

    private void wholeFile() throws IOException {
        Set<String> promised = new TreeSet<>();
        for (String line : Document.lines()) {
            if (line.startsWith("    public ") && line.endsWith(");")) promised.add(line.trim().replace(";", ""));
        }
        due.holds("the document tells a face", promised.size() == 36);
        due.holds("the face is " + promised + ", not " + face, promised.equals(face));
        Set<String> twice = new TreeSet<>(privateNames);
        twice.retainAll(publicNames);
        due.holds("other methods bear names of the face: " + twice, twice.isEmpty());
        due.holds("classes: " + classes, classes <= 12);
        int depth = 0;
        for (String start : calls.keySet()) depth = Math.max(depth, depthOf(start, 0));
        due.holds("calls go " + depth + " deep", depth <= 8);
    }

    /** How many calls stand open at once, the library's among them; a recursion comes to be far too deep. */
    private int depthOf(String start, int above) {
        if (above > 20) return 1;
        int below = 0;
        for (String called : calls.getOrDefault(start, Set.of())) below = Math.max(below, depthOf(called, above + 1));
        return below + 1;
    }

    @Override
    public Void visitImport(ImportTree tree, Void v) {
        due.is("import " + tree.getQualifiedIdentifier(), tree.getQualifiedIdentifier().toString().equals("java.util.Arrays") ? 1 : 0, 1);
        return super.visitImport(tree, v);
    }

    @Override
    public Void visitClass(ClassTree tree, Void v) {
        classes++;
        String name = tree.getSimpleName().toString();
        boolean outer = getCurrentPath().getParentPath().getLeaf() == unit;
        boolean inside = getCurrentPath().getParentPath().getLeaf() instanceof ClassTree;
        Set<Modifier> flags = tree.getModifiers().getFlags();
        if (outer) due.holds(name + " is public and final", flags.containsAll(Set.of(Modifier.PUBLIC, Modifier.FINAL)));
        else due.holds(name + " is static and not public", inside && flags.contains(Modifier.STATIC) && !flags.contains(Modifier.PUBLIC));
        int fields = 0;
        for (Tree member : tree.getMembers()) {
            if (member instanceof VariableTree field) {
                Set<Modifier> of = field.getModifiers().getFlags();
                if (!of.contains(Modifier.STATIC)) fields++;
                else due.holds(field + " is final and plain", of.contains(Modifier.FINAL) && STATICS.contains(field.getType().toString()));
                if (outer) due.holds(field + " is private", of.contains(Modifier.PRIVATE));
            }
            due.holds("no initialiser block in " + name, member.getKind() != Tree.Kind.BLOCK);
        }
        due.holds(name + " has " + fields + " fields", fields <= 20);
        return super.visitClass(tree, v);
    }

    @Override
    public Void visitMethod(MethodTree tree, Void v) {
        Element element = trees.getElement(getCurrentPath());
        String name = element.getEnclosingElement() + "." + element;
        boolean outer = element.getEnclosingElement().toString().equals("LateClaims");
        if (element.getModifiers().contains(Modifier.PUBLIC)) {
            publicNames.add(tree.getName().toString());
            face.add(signature(tree));
        } else if (tree.getReturnType() != null) {
            privateNames.add(tree.getName().toString());
            due.holds(name + " is private", !outer || element.getModifiers().contains(Modifier.PRIVATE));
        }
        due.holds(name + " takes seven parameters at most", tree.getParameters().size() <= 7);
        due.holds(name + " has some sixty lines at most", lines(tree) <= 60);
        method = name;
        calls.computeIfAbsent(name, n -> new TreeSet<>());
        super.visitMethod(tree, v);
        method = null;
        return null;
    }

    private static String signature(MethodTree tree) {
        StringBuilder text = new StringBuilder("public ");
        if (tree.getReturnType() == null) text.append("LateClaims");
        else text.append(tree.getReturnType()).append(' ').append(tree.getName());
        text.append('(');
        for (VariableTree p : tree.getParameters()) {
            if (text.charAt(text.length() - 1) != '(') text.append(", ");
            text.append(p.getType()).append(' ').append(p.getName());
        }
        return text.append(')').toString();
    }

    private long lines(MethodTree tree) {
        long start = trees.getSourcePositions().getStartPosition(unit, tree);
        long end = trees.getSourcePositions().getEndPosition(unit, tree);
        return start < 0 || end < 0 ? 0 : unit.getLineMap().getLineNumber(end) - unit.getLineMap().getLineNumber(start) + 1;
    }

    @Override
    public Void visitMethodInvocation(MethodInvocationTree tree, Void v) {
        Element called = trees.getElement(new TreePath(getCurrentPath(), tree.getMethodSelect()));
        String owner = called.getEnclosingElement().toString();
        boolean own = owner.startsWith("LateClaims");
        boolean isSuper = tree.getMethodSelect().toString().equals("super");
        if (!own && !isSuper) {
            String name = owner + "." + called;
            due.holds(name + " is of the library that may be used", LIBRARY.contains(name));
        }
        if (method != null && !isSuper) calls.get(method).add(owner + "." + called);
        return super.visitMethodInvocation(tree, v);
    }

    @Override
    public Void visitNewClass(NewClassTree tree, Void v) {
        Element made = trees.getElement(getCurrentPath());
        due.holds(tree + " makes an own object", made.getEnclosingElement().toString().startsWith("LateClaims"));
        due.holds(tree + " has no body", tree.getClassBody() == null);
        if (method != null) calls.get(method).add(made.getEnclosingElement() + "." + made);
        return super.visitNewClass(tree, v);
    }

    @Override
    public Void visitForLoop(ForLoopTree tree, Void v) {
        due.holds("a loop counts up to a bound: " + tree.getCondition(), tree.getCondition() != null && tree.getUpdate().size() == 1);
        return super.visitForLoop(tree, v);
    }

    @Override
    public Void visitThrow(ThrowTree tree, Void v) {
        return none(tree);
    }

    @Override
    public Void visitTry(TryTree tree, Void v) {
        return none(tree);
    }

    @Override
    public Void visitSynchronized(SynchronizedTree tree, Void v) {
        return none(tree);
    }

    @Override
    public Void visitAssert(AssertTree tree, Void v) {
        return none(tree);
    }

    @Override
    public Void visitLambdaExpression(LambdaExpressionTree tree, Void v) {
        return none(tree);
    }

    @Override
    public Void visitMemberReference(MemberReferenceTree tree, Void v) {
        return none(tree);
    }

    private Void none(Tree tree) {
        due.holds("none of these: " + tree, false);
        return null;
    }
}
