import com.sun.source.tree.ArrayAccessTree;
import com.sun.source.tree.BinaryTree;
import com.sun.source.tree.ClassTree;
import com.sun.source.tree.CompilationUnitTree;
import com.sun.source.tree.CompoundAssignmentTree;
import com.sun.source.tree.ForLoopTree;
import com.sun.source.tree.ImportTree;
import com.sun.source.tree.LiteralTree;
import com.sun.source.tree.MethodInvocationTree;
import com.sun.source.tree.MethodTree;
import com.sun.source.tree.NewArrayTree;
import com.sun.source.tree.NewClassTree;
import com.sun.source.tree.ThrowTree;
import com.sun.source.tree.Tree;
import com.sun.source.tree.VariableTree;
import com.sun.source.util.JavacTask;
import com.sun.source.util.TreePath;
import com.sun.source.util.TreePathScanner;
import com.sun.source.util.Trees;
import java.nio.file.Files;
import java.nio.file.Path;
import java.util.ArrayList;
import java.util.HashMap;
import java.util.LinkedHashSet;
import java.util.List;
import java.util.Map;
import java.util.Set;
import javax.lang.model.element.Element;
import javax.lang.model.element.Modifier;
import javax.tools.JavaCompiler;
import javax.tools.StandardJavaFileManager;
import javax.tools.ToolProvider;

/**
 * The class keeps to LANGUAGE.md: its source is read by the compiler, and what stands in it is held
 * against the rules, by their numbers. Where the class needs less than a rule allows, less is allowed here.
 */
public final class LanguageTest extends TreePathScanner<Void, Void> {
    private static final Path SOURCE = Path.of("src/main/java/LearnedLedge.java");
    private static final Set<Tree.Kind> FORBIDDEN = Set.of(Tree.Kind.LAMBDA_EXPRESSION, Tree.Kind.MEMBER_REFERENCE,
            Tree.Kind.TRY, Tree.Kind.CATCH, Tree.Kind.SYNCHRONIZED, Tree.Kind.ASSERT, Tree.Kind.TYPE_CAST,
            Tree.Kind.INSTANCE_OF, Tree.Kind.WHILE_LOOP, Tree.Kind.DO_WHILE_LOOP, Tree.Kind.ANNOTATION,
            Tree.Kind.FLOAT_LITERAL, Tree.Kind.DOUBLE_LITERAL);
    private static final Set<String> TYPES = Set.of("int", "long", "boolean", "int[]", "Numbers", "SlopeRange");
    private static final Set<String> CONSTANTS = Set.of("int", "long", "boolean", "char", "String");
    private static final Set<String> THROWN = Set.of("IllegalStateException", "IllegalArgumentException",
            "IndexOutOfBoundsException", "NoSuchElementException");
    private static final Set<String> LIBRARY = Set.of("Math.min", "Math.max", "Math.abs", "Math.floorDiv");

    private final Trees trees;
    private final CompilationUnitTree unit;
    private final Map<String, Set<String>> calls = new HashMap<>();
    private int classes = 0;

    private LanguageTest(Trees trees, CompilationUnitTree unit) {
        this.trees = trees;
        this.unit = unit;
    }

    public static void main(String[] args) throws Exception {
        signs(Files.readString(SOURCE));
        JavaCompiler compiler = ToolProvider.getSystemJavaCompiler();
        try (StandardJavaFileManager files = compiler.getStandardFileManager(null, null, null)) {
            JavacTask task = (JavacTask) compiler.getTask(null, files, null, List.of("-proc:none"), null,
                    files.getJavaFileObjects(SOURCE));
            CompilationUnitTree unit = task.parse().iterator().next();
            task.analyze();
            LanguageTest test = new LanguageTest(Trees.instance(task), unit);
            test.scan(unit, null);
            test.whole();
        }
        Check.end("LanguageTest");
    }

    private void rule(int number, String what, boolean holds) {
        Check.due("rule " + number + ": " + what + ", kept", "yes", holds ? "yes" : "no");
    }

    private static void signs(String text) {
        boolean plain = true;
        for (char sign : text.toCharArray()) {
            plain &= sign >= 1 && sign <= 127;
        }
        Check.due("rule 4: signs from 1 to 127, kept", "yes", plain ? "yes" : "no");
    }

    /** What can be told when all of the file was seen. */
    private void whole() {
        rule(1, "no package line", unit.getPackageName() == null);
        rule(1, "one class at the top", unit.getTypeDecls().size() == 1);
        rule(11, "at most twelve classes", classes <= 12);
        for (String method : calls.keySet()) {
            int depth = depth(method, new ArrayList<>());
            rule(8, method + " does not call itself", depth >= 0);
            rule(11, method + " goes at most eight calls deep, and goes " + depth, depth <= 8);
        }
    }

    /** How many calls stand open at once, this one too; below 0 if one of them calls itself. */
    private int depth(String method, List<String> open) {
        if (open.contains(method)) {
            return -1;
        }
        open.add(method);
        int deepest = 0;
        for (String called : calls.getOrDefault(method, Set.of())) {
            int depth = depth(called, open);
            if (depth < 0) {
                return -1;
            }
            deepest = Math.max(deepest, depth);
        }
        open.remove(method);
        return deepest + 1;
    }

    @Override
    public Void scan(Tree tree, Void none) {
        if (tree != null) {
            rule(6, tree.getKind() + " at line " + line(tree), !FORBIDDEN.contains(tree.getKind())
                    || tree.getKind() == Tree.Kind.TYPE_CAST && tree.toString().matches("\\((int|long)\\).*"));
        }
        return super.scan(tree, none);
    }

    @Override
    public Void visitImport(ImportTree tree, Void none) {
        rule(4, tree.toString(), tree.getQualifiedIdentifier().toString().equals("java.util.NoSuchElementException"));
        return super.visitImport(tree, none);
    }

    @Override
    public Void visitClass(ClassTree tree, Void none) {
        classes++;
        int fields = 0;
        for (Tree member : tree.getMembers()) {
            rule(5, "no initialiser block at line " + line(member), member.getKind() != Tree.Kind.BLOCK);
            if (member instanceof VariableTree field) {
                boolean constant = field.getModifiers().getFlags().contains(Modifier.STATIC);
                fields += constant ? 0 : 1;
                rule(5, "static " + field.getName() + " is a constant", !constant
                        || field.getModifiers().getFlags().contains(Modifier.FINAL)
                        && CONSTANTS.contains(field.getType().toString()));
            }
        }
        rule(11, tree.getSimpleName() + " has at most twenty fields", fields <= 20);
        boolean top = getCurrentPath().getParentPath().getLeaf() == unit;
        boolean inside = getCurrentPath().getParentPath().getLeaf() instanceof ClassTree;
        rule(2, tree.getSimpleName() + " is static and inside the class", top
                || inside && tree.getModifiers().getFlags().contains(Modifier.STATIC));
        return super.visitClass(tree, none);
    }

    @Override
    public Void visitMethod(MethodTree tree, Void none) {
        long lines = line(trees.getSourcePositions().getEndPosition(unit, tree)) - line(tree) + 1;
        rule(11, tree.getName() + " has at most sixty lines", lines <= 60);
        rule(11, tree.getName() + " has at most seven parameters", tree.getParameters().size() <= 7);
        rule(6, tree.getName() + " is a name of one's own",
                !Set.of("equals", "hashCode", "toString").contains(tree.getName().toString()));
        calls.putIfAbsent(nameOf(trees.getElement(getCurrentPath())), new LinkedHashSet<>());
        return super.visitMethod(tree, none);
    }

    @Override
    public Void visitVariable(VariableTree tree, Void none) {
        String type = tree.getType().toString();
        boolean constant = tree.getModifiers().getFlags().contains(Modifier.STATIC);
        rule(3, type + " " + tree.getName(), TYPES.contains(type) || constant);
        return super.visitVariable(tree, none);
    }

    @Override
    public Void visitMethodInvocation(MethodInvocationTree tree, Void none) {
        String called = nameOf(trees.getElement(getCurrentPath()));
        MethodTree caller = around();
        boolean own = called.startsWith("LearnedLedge.");
        boolean made = caller == null || caller.getReturnType() == null;
        rule(4, called, own || called.endsWith(".<init>") || LIBRARY.contains(called.replace("java.lang.", "")));
        if (own && caller != null) {
            String from = nameOf(trees.getElement(trees.getPath(unit, caller)));
            calls.computeIfAbsent(from, key -> new LinkedHashSet<>()).add(called);
        }
        rule(12, "a constructor calls none of the class's methods, line " + line(tree), !(made && own));
        return super.visitMethodInvocation(tree, none);
    }

    @Override
    public Void visitNewClass(NewClassTree tree, Void none) {
        boolean thrown = getCurrentPath().getParentPath().getLeaf().getKind() == Tree.Kind.THROW;
        rule(2, "no class without a name, line " + line(tree), tree.getClassBody() == null);
        rule(12, "objects are made with the ledge alone, line " + line(tree), thrown || around() == null);
        return super.visitNewClass(tree, none);
    }

    @Override
    public Void visitNewArray(NewArrayTree tree, Void none) {
        MethodTree method = around();
        rule(12, "arrays are made with the ledge alone, line " + line(tree),
                method == null || method.getReturnType() == null);
        return super.visitNewArray(tree, none);
    }

    @Override
    public Void visitThrow(ThrowTree tree, Void none) {
        boolean plain = tree.getExpression() instanceof NewClassTree made
                && THROWN.contains(made.getIdentifier().toString())
                && made.getArguments().stream().allMatch(text -> text.getKind() == Tree.Kind.STRING_LITERAL);
        MethodTree method = around();
        rule(6, tree.toString(), plain && method != null && method.getReturnType() != null);
        return super.visitThrow(tree, none);
    }

    @Override
    public Void visitArrayAccess(ArrayAccessTree tree, Void none) {
        String body = around() == null ? "" : around().getBody().toString();
        rule(7, "an index is tested, line " + line(tree), body.contains("has(index)") || body.contains("items.length"));
        return super.visitArrayAccess(tree, none);
    }

    @Override
    public Void visitBinary(BinaryTree tree, Void none) {
        if (tree.getKind() == Tree.Kind.DIVIDE || tree.getKind() == Tree.Kind.REMAINDER) {
            divisor(tree.getRightOperand());
        }
        return super.visitBinary(tree, none);
    }

    @Override
    public Void visitCompoundAssignment(CompoundAssignmentTree tree, Void none) {
        if (tree.getKind() == Tree.Kind.DIVIDE_ASSIGNMENT || tree.getKind() == Tree.Kind.REMAINDER_ASSIGNMENT) {
            divisor(tree.getExpression());
        }
        return super.visitCompoundAssignment(tree, none);
    }

    /** A written number, divisor() with its answer of at least 1, or one that the loop around tests. */
    private void divisor(Tree divisor) {
        boolean written = divisor instanceof LiteralTree number && !number.getValue().equals(0);
        boolean tested = false;
        for (TreePath path = getCurrentPath(); path != null; path = path.getParentPath()) {
            tested |= path.getLeaf() instanceof ForLoopTree loop
                    && loop.getCondition().toString().contains(divisor + " != 0");
        }
        rule(7, "a divisor is tested: " + divisor, written || tested || divisor.toString().equals("divisor()"));
    }

    @Override
    public Void visitForLoop(ForLoopTree tree, Void none) {
        boolean counted = tree.getCondition() != null && tree.getUpdate().size() == 1
                && tree.getUpdate().get(0).toString().matches("\\w+(\\+\\+|--);?");
        String counter = counted ? tree.getUpdate().get(0).toString().replaceAll("\\W", "") : "";
        rule(9, "the end of the loop at line " + line(tree), counted
                && tree.getCondition().toString().matches(".*\\b" + counter + " [<>] .*"));
        return super.visitForLoop(tree, none);
    }

    /** The method around the tree that is looked at; null in a field's initialiser. */
    private MethodTree around() {
        for (TreePath path = getCurrentPath(); path != null; path = path.getParentPath()) {
            if (path.getLeaf() instanceof MethodTree method) {
                return method;
            }
        }
        return null;
    }

    private static String nameOf(Element method) {
        return method.getEnclosingElement() + "." + method.getSimpleName();
    }

    private long line(Tree tree) {
        return line(trees.getSourcePositions().getStartPosition(unit, tree));
    }

    private long line(long position) {
        return position < 0 ? 0 : unit.getLineMap().getLineNumber(position);
    }
}
