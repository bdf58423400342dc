import com.sun.source.tree.BinaryTree;
import com.sun.source.tree.ClassTree;
import com.sun.source.tree.CompilationUnitTree;
import com.sun.source.tree.ConditionalExpressionTree;
import com.sun.source.tree.ExpressionStatementTree;
import com.sun.source.tree.ExpressionTree;
import com.sun.source.tree.ForLoopTree;
import com.sun.source.tree.IfTree;
import com.sun.source.tree.LiteralTree;
import com.sun.source.tree.MethodInvocationTree;
import com.sun.source.tree.MethodTree;
import com.sun.source.tree.ParenthesizedTree;
import com.sun.source.tree.ReturnTree;
import com.sun.source.tree.Tree;
import com.sun.source.tree.VariableTree;
import com.sun.source.util.JavacTask;
import com.sun.source.util.TreeScanner;
import com.sun.source.util.Trees;
import java.io.IOException;
import java.nio.file.Path;
import java.util.ArrayList;
import java.util.List;
import java.util.Map;
import javax.lang.model.element.Modifier;
import javax.tools.JavaCompiler;
import javax.tools.StandardJavaFileManager;
import javax.tools.ToolProvider;

/**
 * Ways to break the program, one place at a time. Of the face: every answer one too great, every REFUSAL not counted,
 * everything that is looked at ahead of a REFUSAL not looked at, every step left out. Of a new object, and of all the
 * constants: every number one too great. If all are asked for, of every method: every answer, condition, comparison,
 * number and sum.
 */
final class Breaks extends TreeScanner<Void, Void> {
    private static final Map<Tree.Kind, List<String>> OTHER_SIGNS = Map.of(
        Tree.Kind.LESS_THAN, List.of("<=", ">"), Tree.Kind.LESS_THAN_EQUAL, List.of("<", ">"),
        Tree.Kind.GREATER_THAN, List.of(">=", "<"), Tree.Kind.GREATER_THAN_EQUAL, List.of(">", "<"),
        Tree.Kind.EQUAL_TO, List.of("!="), Tree.Kind.NOT_EQUAL_TO, List.of("=="),
        Tree.Kind.PLUS, List.of("-"), Tree.Kind.MINUS, List.of("+"),
        Tree.Kind.CONDITIONAL_AND, List.of("||"), Tree.Kind.CONDITIONAL_OR, List.of("&&"));

    private final String program;
    private final Trees trees;
    private final CompilationUnitTree unit;
    private final boolean all;
    private final List<Break> found = new ArrayList<>();
    private String method = "";
    private String answers = "";
    private boolean face = false;

    private Breaks(String program, Trees trees, CompilationUnitTree unit, boolean all) {
        this.program = program;
        this.trees = trees;
        this.unit = unit;
        this.all = all;
    }

    static List<Break> of(Path source, String program, boolean all) throws IOException {
        JavaCompiler javac = ToolProvider.getSystemJavaCompiler();
        try (StandardJavaFileManager files = javac.getStandardFileManager(null, null, null)) {
            JavacTask task = (JavacTask) javac.getTask(null, files, null, List.of("-proc:none"), null, files.getJavaFileObjects(source));
            CompilationUnitTree unit = task.parse().iterator().next();
            Breaks breaks = new Breaks(program, Trees.instance(task), unit, all);
            breaks.scan(unit, null);
            return breaks.found;
        }
    }

    private void to(Tree tree, String words) {
        to(start(tree), end(tree), words);
    }

    private void to(int from, int to, String words) {
        found.add(new Break(method, unit.getLineMap().getLineNumber(from), from, to, words));
    }

    private int start(Tree tree) {
        return (int) trees.getSourcePositions().getStartPosition(unit, tree);
    }

    private int end(Tree tree) {
        return (int) trees.getSourcePositions().getEndPosition(unit, tree);
    }

    private String text(Tree tree) {
        return program.substring(start(tree), end(tree));
    }

    @Override
    public Void visitClass(ClassTree tree, Void v) {
        for (Tree member : tree.getMembers()) {
            if (member instanceof VariableTree field) constant(tree.getSimpleName() + "." + field.getName(), field);
        }
        return super.visitClass(tree, v);
    }

    private void constant(String name, VariableTree field) {
        ExpressionTree value = field.getInitializer();
        if (value == null || !field.getType().toString().equals("int")) return;
        method = name;
        to(value, "(" + text(value) + ") + 1");
        method = "";
    }

    @Override
    public Void visitMethod(MethodTree tree, Void v) {
        method = tree.getName().toString();
        answers = String.valueOf(tree.getReturnType());
        face = tree.getModifiers().getFlags().contains(Modifier.PUBLIC);
        if (all || face) super.visitMethod(tree, v);
        method = "";
        face = false;
        return null;
    }

    @Override
    public Void visitReturn(ReturnTree tree, Void v) {
        ExpressionTree answer = tree.getExpression();
        if (answer == null) return null;
        if (answers.equals("int")) to(answer, "(" + text(answer) + ") + 1");
        if (answers.equals("boolean")) to(answer, "!(" + text(answer) + ")");
        return super.visitReturn(tree, v);
    }

    @Override
    public Void visitMethodInvocation(MethodInvocationTree tree, Void v) {
        String called = tree.getMethodSelect().toString();
        if (called.equals("refuse")) to(tree, text(tree.getArguments().get(0)));
        if (called.equals("refuseBeyond")) to(tree, "BEYOND_ANSWERS - " + text(tree.getArguments().get(0)));
        if (all && called.equals("Math.max")) to(tree.getMethodSelect(), "Math.min");
        if (all && called.equals("Math.min")) to(tree.getMethodSelect(), "Math.max");
        return super.visitMethodInvocation(tree, v);
    }

    @Override
    public Void visitIf(IfTree tree, Void v) {
        if (face) eachIn(tree.getCondition());
        return super.visitIf(tree, v);
    }

    /** The parts of a condition joined by ||, each of which is left out. */
    private void eachIn(Tree condition) {
        if (condition instanceof BinaryTree two && two.getKind() == Tree.Kind.CONDITIONAL_OR) {
            eachIn(two.getLeftOperand());
            eachIn(two.getRightOperand());
        } else if (condition instanceof ParenthesizedTree inside) {
            eachIn(inside.getExpression());
        } else {
            to(condition, "false");
        }
    }

    @Override
    public Void visitExpressionStatement(ExpressionStatementTree tree, Void v) {
        to(tree, ";");
        return super.visitExpressionStatement(tree, v);
    }

    @Override
    public Void visitConditionalExpression(ConditionalExpressionTree tree, Void v) {
        if (all) to(tree.getCondition(), "!(" + text(tree.getCondition()) + ")");
        return super.visitConditionalExpression(tree, v);
    }

    @Override
    public Void visitBinary(BinaryTree tree, Void v) {
        if (all) {
            int from = end(tree.getLeftOperand());
            int to = start(tree.getRightOperand());
            for (String sign : OTHER_SIGNS.getOrDefault(tree.getKind(), List.of())) to(from, to, " " + sign + " ");
        }
        return super.visitBinary(tree, v);
    }

    @Override
    public Void visitLiteral(LiteralTree tree, Void v) {
        boolean first = face && method.equals("<init>");
        if ((all || first) && tree.getValue() instanceof Integer) to(tree, "(" + text(tree) + " + 1)");
        return super.visitLiteral(tree, v);
    }

    /** A loop's own steps stay, so that it ends. */
    @Override
    public Void visitForLoop(ForLoopTree tree, Void v) {
        if (all) {
            scan(tree.getInitializer(), v);
            scan(tree.getCondition(), v);
        }
        return scan(tree.getStatement(), v);
    }
}
