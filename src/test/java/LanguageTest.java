import com.sun.source.tree.BinaryTree;
import com.sun.source.tree.BlockTree;
import com.sun.source.tree.ClassTree;
import com.sun.source.tree.CompilationUnitTree;
import com.sun.source.tree.ExpressionTree;
import com.sun.source.tree.ForLoopTree;
import com.sun.source.tree.IdentifierTree;
import com.sun.source.tree.LiteralTree;
import com.sun.source.tree.MethodInvocationTree;
import com.sun.source.tree.MethodTree;
import com.sun.source.tree.Tree;
import com.sun.source.tree.UnaryTree;
import com.sun.source.tree.VariableTree;
import com.sun.source.tree.WhileLoopTree;
import com.sun.source.util.JavacTask;
import com.sun.source.util.SourcePositions;
import com.sun.source.util.TreePath;
import com.sun.source.util.TreePathScanner;
import com.sun.source.util.TreeScanner;
import com.sun.source.util.Trees;
import java.io.IOException;
import java.io.UncheckedIOException;
import java.nio.file.Files;
import java.nio.file.Path;
import java.util.ArrayList;
import java.util.EnumSet;
import java.util.LinkedHashMap;
import java.util.List;
import java.util.Map;
import java.util.Set;
import java.util.TreeSet;
import javax.lang.model.element.Element;
import javax.lang.model.element.Modifier;
import javax.lang.model.type.TypeKind;
import javax.tools.JavaCompiler;
import javax.tools.StandardJavaFileManager;
import javax.tools.ToolProvider;

/** The rules of LANGUAGE.md, as far as the compiler's own tree of the class can show them. */
public final class LanguageTest extends TreePathScanner<Void, Void> {
    private static final Check c = new Check("language");
    private static final Path MAIN = Path.of("src/main/java/GuildPiece.java");
    private static final int MOST_LINES = 60, MOST_PARAMETERS = 7, DEEPEST = 8, MOST_CLASSES = 12, MOST_FIELDS = 20;
    /** Of the library the class needs no more than this; rule 4 has more. */
    private static final Set<String> LIBRARY =
        Set.of("Integer.bitCount", "Math.min", "Math.max", "System.arraycopy");
    /** The one method that calls itself; its depth is an argument. */
    private static final String RECURSIVE = "Bodies.give";
    private static final Set<Tree.Kind> NEVER = EnumSet.of(Tree.Kind.THROW, Tree.Kind.TRY, Tree.Kind.CATCH,
        Tree.Kind.SYNCHRONIZED, Tree.Kind.ASSERT, Tree.Kind.LAMBDA_EXPRESSION, Tree.Kind.MEMBER_REFERENCE,
        Tree.Kind.SWITCH_EXPRESSION, Tree.Kind.STRING_LITERAL, Tree.Kind.NULL_LITERAL, Tree.Kind.DOUBLE_LITERAL,
        Tree.Kind.FLOAT_LITERAL, Tree.Kind.IMPORT, Tree.Kind.PACKAGE, Tree.Kind.ANNOTATION, Tree.Kind.INSTANCE_OF);

    private final CompilationUnitTree unit;
    private final Trees trees;
    private final Set<String> publicNames = new TreeSet<>();
    private final Set<String> privateNames = new TreeSet<>();
    private final Map<String, Set<String>> calls = new LinkedHashMap<>();
    private int classes;
    private int loops;

    private LanguageTest(CompilationUnitTree unit, Trees trees) {
        this.unit = unit;
        this.trees = trees;
    }

    public static void main(String[] args) throws IOException {
        c.holds("the text is of signs 1 to 127", source().chars().allMatch(sign -> sign > 0 && sign < 128));
        JavaCompiler javac = ToolProvider.getSystemJavaCompiler();
        try (StandardJavaFileManager files = javac.getStandardFileManager(null, null, null)) {
            JavacTask task = (JavacTask) javac.getTask(null, files, null, List.of("-proc:none", "--release", "17"),
                null, files.getJavaFileObjects(MAIN));
            CompilationUnitTree unit = task.parse().iterator().next();
            task.analyze();
            LanguageTest test = new LanguageTest(unit, Trees.instance(task));
            test.scan(unit, null);
            test.conclude();
        }
        c.end();
    }

    /** The text of the class. */
    static String source() {
        try {
            return Files.readString(MAIN);
        } catch (IOException e) {
            throw new UncheckedIOException(e);
        }
    }

    private void conclude() {
        c.due("rule 1: types in the file", unit.getTypeDecls().size(), 1);
        c.due("rule 1: public methods", publicNames.size(), 35);
        for (String name : privateNames) {
            c.holds("rule 1: no private method bears the name " + name, !publicNames.contains(name));
        }
        c.holds("rule 11: some twelve classes at most, " + classes, classes > 1 && classes <= MOST_CLASSES);
        c.holds("loops were looked at", loops > 20);
        for (String method : calls.keySet()) {
            int deep = depth(method, new ArrayList<>());
            c.holds("rule 11: " + method + " goes " + deep + " deep, " + DEEPEST + " at most", deep <= DEEPEST);
        }
        c.holds("calls were looked at", depth("GuildPiece.trial", new ArrayList<>()) > 4);
    }

    /** How many calls stand open at most, the first among them; of calls that go round only RECURSIVE may. */
    private int depth(String method, List<String> open) {
        if (open.contains(method)) {
            c.holds("rule 8: no recursion but of " + RECURSIVE + ": " + open + " calls " + method,
                method.equals(RECURSIVE) && open.get(open.size() - 1).equals(RECURSIVE));
            return 0;
        }
        open.add(method);
        int deepest = 0;
        for (String next : calls.getOrDefault(method, Set.of())) {
            deepest = Math.max(deepest, depth(next, open));
        }
        open.remove(open.size() - 1);
        return 1 + deepest;
    }

    private static String place(Tree tree) {
        return tree.toString().lines().findFirst().orElse("") + " ..";
    }

    @Override
    public Void scan(Tree tree, Void none) {
        if (tree != null) {
            Tree.Kind kind = tree.getKind();
            c.holds("rule 6 (or 2, 3, 5): no " + kind + " " + place(tree), !NEVER.contains(kind));
        }
        return super.scan(tree, none);
    }

    // ---- classes and their members

    @Override
    public Void visitClass(ClassTree tree, Void none) {
        classes++;
        Set<Modifier> how = tree.getModifiers().getFlags();
        String name = tree.getSimpleName().toString();
        if (name.equals("GuildPiece")) {
            c.holds("rule 1: public and final", how.equals(EnumSet.of(Modifier.PUBLIC, Modifier.FINAL)));
        } else {
            c.holds("rule 1: " + name + " is private or package-visible, and static", how.contains(Modifier.STATIC)
                && !how.contains(Modifier.PUBLIC) && !how.contains(Modifier.PROTECTED));
            c.holds("rule 2: " + name + " stands in the class itself",
                getCurrentPath().getParentPath().getLeaf() instanceof ClassTree);
        }
        int fields = 0;
        for (Tree member : tree.getMembers()) {
            c.holds("rule 5: no block of statements in " + name, !(member instanceof BlockTree));
            if (member instanceof VariableTree field) {
                fields += field.getModifiers().getFlags().contains(Modifier.STATIC) ? 0 : 1;
            }
        }
        c.holds("rule 11: " + name + " has some twenty fields at most", fields <= MOST_FIELDS);
        return super.visitClass(tree, none);
    }

    @Override
    public Void visitMethod(MethodTree tree, Void none) {
        String name = nameOf(trees.getElement(getCurrentPath()));
        String bare = tree.getName().toString();
        Set<Modifier> how = tree.getModifiers().getFlags();
        boolean written = trees.getSourcePositions().getEndPosition(unit, tree) > 0 && lines(tree) > 1;
        if (how.contains(Modifier.PUBLIC)) {
            if (!bare.equals("<init>")) {
                publicNames.add(bare);
            }
            c.holds("rule 1: what is public is the class's own: " + name, name.startsWith("GuildPiece."));
        } else if (!bare.equals("<init>")) {
            privateNames.add(bare);
            c.holds("rule 1: private is " + name, how.contains(Modifier.PRIVATE));
        }
        c.holds("rule 6: no equals, hashCode, toString: " + name, !Set.of("equals", "hashCode", "toString").contains(bare));
        c.holds("rule 11: seven parameters at most: " + name, tree.getParameters().size() <= MOST_PARAMETERS);
        c.holds("rule 11: some sixty lines at most: " + name, !written || lines(tree) <= MOST_LINES);
        calls.put(name, new TreeSet<>());
        return super.visitMethod(tree, none);
    }

    private long lines(Tree tree) {
        SourcePositions at = trees.getSourcePositions();
        return unit.getLineMap().getLineNumber(at.getEndPosition(unit, tree))
            - unit.getLineMap().getLineNumber(at.getStartPosition(unit, tree)) + 1;
    }

    @Override
    public Void visitVariable(VariableTree tree, Void none) {
        Element element = trees.getElement(getCurrentPath());
        String type = element.asType().toString();
        c.holds("rule 3: the type " + type + " of " + tree.getName(),
            type.matches("(int|long|boolean)(\\[\\])?|GuildPiece\\.\\w+"));
        Set<Modifier> how = tree.getModifiers().getFlags();
        if (element.getKind().isField()) {
            c.holds("rule 1: private is " + tree.getName(), how.contains(Modifier.PRIVATE)
                || how.contains(Modifier.PUBLIC) && Set.of("NONE", "BAD", "STATE", "FULL").contains(tree.getName().toString()));
            c.holds("rule 5: a static field is a constant: " + tree.getName(), !how.contains(Modifier.STATIC)
                || how.contains(Modifier.FINAL) && element.asType().getKind() == TypeKind.INT);
        }
        return super.visitVariable(tree, none);
    }

    // ---- calls and what is made

    private static String nameOf(Element method) {
        return method.getEnclosingElement().getSimpleName() + "." + method.getSimpleName();
    }

    private String openMethod() {
        for (TreePath path = getCurrentPath(); path != null; path = path.getParentPath()) {
            if (path.getLeaf() instanceof MethodTree) {
                return nameOf(trees.getElement(path));
            }
        }
        return "";
    }

    @Override
    public Void visitMethodInvocation(MethodInvocationTree tree, Void none) {
        Element called = trees.getElement(new TreePath(getCurrentPath(), tree.getMethodSelect()));
        String name = nameOf(called);
        if (!called.getSimpleName().contentEquals("<init>")) {
            boolean own = called.getEnclosingElement().toString().startsWith("GuildPiece");
            c.holds("rule 4: the library has " + name, own || LIBRARY.contains(name));
            calls.get(openMethod()).add(name);
        }
        if (name.equals(RECURSIVE) && openMethod().equals(RECURSIVE)) {
            String depth = tree.getArguments().get(tree.getArguments().size() - 1).toString();
            c.holds("rule 8: a level deeper is one more: " + tree, depth.equals("depth + 1"));
        }
        return super.visitMethodInvocation(tree, none);
    }

    @Override
    public Void visitNewClass(com.sun.source.tree.NewClassTree tree, Void none) {
        c.holds("rule 12: objects are made with the object alone: " + tree, openMethod().isEmpty());
        c.holds("rule 2: no class without a name: " + tree, tree.getClassBody() == null);
        return super.visitNewClass(tree, none);
    }

    @Override
    public Void visitNewArray(com.sun.source.tree.NewArrayTree tree, Void none) {
        c.holds("rule 12: arrays are made with the object alone: " + tree, openMethod().isEmpty());
        return super.visitNewArray(tree, none);
    }

    // ---- loops

    /** for (int i = ..; i < .., or i <= ..; i++), and nothing else in it changes i. */
    @Override
    public Void visitForLoop(ForLoopTree tree, Void none) {
        loops++;
        boolean counts = tree.getInitializer().size() == 1 && tree.getUpdate().size() == 1
            && tree.getInitializer().get(0) instanceof VariableTree counter
            && tree.getUpdate().get(0).toString().equals(counter.getName() + "++;")
            && isBounded(tree.getCondition(), counter.getName().toString())
            && changes(tree.getStatement(), counter.getName().toString()) == 0;
        c.holds("rule 9: a counter against a bound: " + place(tree), counts);
        return super.visitForLoop(tree, none);
    }

    /** while (i < 3 && ..) with one i++ in it. */
    @Override
    public Void visitWhileLoop(WhileLoopTree tree, Void none) {
        loops++;
        String condition = tree.getCondition().toString().replaceAll("[()]", "");
        String counter = condition.split(" ")[0];
        c.holds("rule 9: a counter against a bound: " + place(tree),
            condition.matches(counter + " < \\d+( && .*)?") && changes(tree.getStatement(), counter) == 1);
        return super.visitWhileLoop(tree, none);
    }

    private static boolean isBounded(ExpressionTree condition, String counter) {
        if (!(condition instanceof BinaryTree both)) {
            return false;
        }
        if (both.getKind() == Tree.Kind.CONDITIONAL_AND) {
            return isBounded(both.getLeftOperand(), counter) || isBounded(both.getRightOperand(), counter);
        }
        boolean below = both.getKind() == Tree.Kind.LESS_THAN || both.getKind() == Tree.Kind.LESS_THAN_EQUAL;
        return below && both.getLeftOperand().toString().matches(counter + "( \\+ \\w+)?");
    }

    /** How often a name is set anew, or counted on. */
    private static int changes(Tree within, String name) {
        int[] many = {0};
        new TreeScanner<Void, Void>() {
            @Override
            public Void visitAssignment(com.sun.source.tree.AssignmentTree tree, Void none) {
                many[0] += tree.getVariable().toString().equals(name) ? 1 : 0;
                return super.visitAssignment(tree, none);
            }

            @Override
            public Void visitCompoundAssignment(com.sun.source.tree.CompoundAssignmentTree tree, Void none) {
                many[0] += tree.getVariable().toString().equals(name) ? 1 : 0;
                return super.visitCompoundAssignment(tree, none);
            }

            @Override
            public Void visitUnary(UnaryTree tree, Void none) {
                boolean steps = tree.getKind().name().endsWith("CREMENT");
                many[0] += steps && tree.getExpression().toString().equals(name) ? 1 : 0;
                return super.visitUnary(tree, none);
            }
        }.scan(within, null);
        return many[0];
    }

    @Override
    public Void visitDoWhileLoop(com.sun.source.tree.DoWhileLoopTree tree, Void none) {
        c.holds("rule 9: do was not looked at: " + place(tree), false);
        return super.visitDoWhileLoop(tree, none);
    }

    // ---- what could make the machine throw

    /** A divisor is a number that is not 0, or one of those that are looked at just before. */
    @Override
    public Void visitBinary(BinaryTree tree, Void none) {
        if (tree.getKind() == Tree.Kind.DIVIDE || tree.getKind() == Tree.Kind.REMAINDER) {
            ExpressionTree by = tree.getRightOperand();
            boolean number = by instanceof LiteralTree literal && ((Number) literal.getValue()).longValue() != 0;
            boolean known = by instanceof IdentifierTree && Set.of("parts", "less", "shared").contains(by.toString());
            c.holds("rule 7: the divisor of " + tree, number || known);
        }
        return super.visitBinary(tree, none);
    }

    @Override
    public Void visitCompoundAssignment(com.sun.source.tree.CompoundAssignmentTree tree, Void none) {
        c.holds("rule 7: no division by " + tree, tree.getKind() != Tree.Kind.DIVIDE_ASSIGNMENT
            && tree.getKind() != Tree.Kind.REMAINDER_ASSIGNMENT);
        return super.visitCompoundAssignment(tree, none);
    }

    @Override
    public Void visitTypeCast(com.sun.source.tree.TypeCastTree tree, Void none) {
        c.holds("rule 7: a cast among numbers alone: " + tree, tree.getType().toString().matches("int|byte|short"));
        return super.visitTypeCast(tree, none);
    }
}
