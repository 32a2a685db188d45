import com.sun.source.tree.ArrayAccessTree;
import com.sun.source.tree.AssignmentTree;
import com.sun.source.tree.BinaryTree;
import com.sun.source.tree.BlockTree;
import com.sun.source.tree.ClassTree;
import com.sun.source.tree.CompilationUnitTree;
import com.sun.source.tree.CompoundAssignmentTree;
import com.sun.source.tree.ExpressionStatementTree;
import com.sun.source.tree.ExpressionTree;
import com.sun.source.tree.ForLoopTree;
import com.sun.source.tree.ImportTree;
import com.sun.source.tree.LiteralTree;
import com.sun.source.tree.MethodInvocationTree;
import com.sun.source.tree.MethodTree;
import com.sun.source.tree.NewArrayTree;
import com.sun.source.tree.NewClassTree;
import com.sun.source.tree.ParenthesizedTree;
import com.sun.source.tree.StatementTree;
import com.sun.source.tree.ThrowTree;
import com.sun.source.tree.Tree;
import com.sun.source.tree.UnaryTree;
import com.sun.source.tree.VariableTree;
import com.sun.source.tree.WhileLoopTree;
import com.sun.source.util.JavacTask;
import com.sun.source.util.TreePath;
import com.sun.source.util.TreePathScanner;
import com.sun.source.util.TreeScanner;
import com.sun.source.util.Trees;
import java.io.IOException;
import java.nio.file.Path;
import java.util.ArrayList;
import java.util.EnumSet;
import java.util.LinkedHashMap;
import java.util.LinkedHashSet;
import java.util.List;
import java.util.Map;
import java.util.Set;
import javax.lang.model.element.Element;
import javax.lang.model.element.ElementKind;
import javax.lang.model.element.ExecutableElement;
import javax.lang.model.element.Modifier;
import javax.lang.model.element.VariableElement;
import javax.lang.model.type.TypeMirror;
import javax.tools.JavaCompiler;
import javax.tools.StandardJavaFileManager;
import javax.tools.ToolProvider;

/**
 * Walks the source with the compiler's own eyes. It is narrower than LANGUAGE.md: it lets through what the class needs,
 * so a rule that the class does not touch (doubles, lists, recursion, try) is kept by its whole ground being closed.
 */
final class RuleScanner extends TreePathScanner<Void, Void> {
    private static final int MOST_PARAMETERS = 7, MOST_LINES = 60, MOST_CLASSES = 12, MOST_FIELDS = 20, MOST_DEPTH = 8;

    private static final Set<Tree.Kind> KINDS = EnumSet.of(Tree.Kind.COMPILATION_UNIT, Tree.Kind.IMPORT, Tree.Kind.CLASS,
            Tree.Kind.METHOD, Tree.Kind.VARIABLE, Tree.Kind.MODIFIERS, Tree.Kind.PRIMITIVE_TYPE, Tree.Kind.ARRAY_TYPE,
            Tree.Kind.BLOCK, Tree.Kind.IF, Tree.Kind.FOR_LOOP, Tree.Kind.ENHANCED_FOR_LOOP, Tree.Kind.WHILE_LOOP,
            Tree.Kind.SWITCH, Tree.Kind.CASE, Tree.Kind.BREAK, Tree.Kind.CONTINUE,
            Tree.Kind.RETURN, Tree.Kind.THROW, Tree.Kind.EXPRESSION_STATEMENT, Tree.Kind.IDENTIFIER,
            Tree.Kind.MEMBER_SELECT, Tree.Kind.METHOD_INVOCATION, Tree.Kind.ARRAY_ACCESS, Tree.Kind.NEW_ARRAY,
            Tree.Kind.NEW_CLASS, Tree.Kind.PARENTHESIZED, Tree.Kind.CONDITIONAL_EXPRESSION, Tree.Kind.INT_LITERAL,
            Tree.Kind.BOOLEAN_LITERAL, Tree.Kind.STRING_LITERAL, Tree.Kind.ASSIGNMENT, Tree.Kind.PLUS_ASSIGNMENT,
            Tree.Kind.MULTIPLY_ASSIGNMENT, Tree.Kind.OR_ASSIGNMENT, Tree.Kind.POSTFIX_INCREMENT,
            Tree.Kind.POSTFIX_DECREMENT, Tree.Kind.UNARY_MINUS, Tree.Kind.LOGICAL_COMPLEMENT, Tree.Kind.PLUS,
            Tree.Kind.MINUS, Tree.Kind.MULTIPLY, Tree.Kind.DIVIDE, Tree.Kind.REMAINDER, Tree.Kind.LEFT_SHIFT,
            Tree.Kind.AND, Tree.Kind.CONDITIONAL_AND, Tree.Kind.CONDITIONAL_OR, Tree.Kind.EQUAL_TO,
            Tree.Kind.NOT_EQUAL_TO, Tree.Kind.LESS_THAN, Tree.Kind.LESS_THAN_EQUAL, Tree.Kind.GREATER_THAN,
            Tree.Kind.GREATER_THAN_EQUAL);
    private static final Set<String> LIBRARY = Set.of("java.lang.Math.max", "java.lang.Math.min", "java.util.Arrays.fill");
    private static final Set<String> THROWN = Set.of("IllegalStateException", "IllegalArgumentException",
            "IndexOutOfBoundsException");
    private static final Set<String> OF_OBJECT = Set.of("equals", "hashCode", "toString", "finalize", "clone");
    private static final Set<Modifier> FIELD_FLAGS = EnumSet.of(Modifier.PUBLIC, Modifier.PRIVATE, Modifier.STATIC,
            Modifier.FINAL);
    private static final Set<Modifier> METHOD_FLAGS = EnumSet.of(Modifier.PUBLIC, Modifier.PRIVATE, Modifier.STATIC);

    private final Due due;
    private final Trees trees;
    private final CompilationUnitTree unit;
    private final Map<Element, Set<Element>> calls = new LinkedHashMap<>();
    private final Set<String> ownTypes = new LinkedHashSet<>();

    private RuleScanner(Due due, Trees trees, CompilationUnitTree unit) {
        this.due = due;
        this.trees = trees;
        this.unit = unit;
    }

    static void scan(Path source, Due due) throws IOException {
        JavaCompiler compiler = ToolProvider.getSystemJavaCompiler();
        try (StandardJavaFileManager files = compiler.getStandardFileManager(null, null, null)) {
            JavacTask task = (JavacTask) compiler.getTask(null, files, null, List.of("-proc:none"), null,
                    files.getJavaFileObjects(source));
            CompilationUnitTree unit = task.parse().iterator().next();
            task.analyze();
            RuleScanner scanner = new RuleScanner(due, Trees.instance(task), unit);
            scanner.wholeFile();
            scanner.scan(unit, null);
            scanner.callGraph();
        }
    }

    private void rule(int number, Tree at, String what, boolean kept) {
        long line = at == null ? 0 : unit.getLineMap().getLineNumber(start(at));
        due.is("rule " + number + ", line " + line + ": " + what, kept, true);
    }

    private long start(Tree tree) {
        return trees.getSourcePositions().getStartPosition(unit, tree);
    }

    private int linesOf(Tree tree) {
        long end = trees.getSourcePositions().getEndPosition(unit, tree);
        return (int) (unit.getLineMap().getLineNumber(end) - unit.getLineMap().getLineNumber(start(tree)) + 1);
    }

    private Element elementOf(Tree tree) {
        return trees.getElement(new TreePath(getCurrentPath(), tree));
    }

    // ---- the file and its classes

    private void wholeFile() throws IOException {
        rule(1, unit, "no package line", unit.getPackageName() == null);
        rule(1, unit, "one class", unit.getTypeDecls().size() == 1);
        for (Tree member : ((ClassTree) unit.getTypeDecls().get(0)).getMembers()) {
            if (member instanceof ClassTree) {
                ownTypes.add(((ClassTree) member).getSimpleName().toString());
            }
        }
        rule(11, unit, "how many classes", ownTypes.size() + 1 <= MOST_CLASSES);
        String text = unit.getSourceFile().getCharContent(true).toString();
        boolean plain = text.chars().allMatch(c -> c == '\n' || c >= 32 && c < 127);
        rule(4, unit, "plain signs alone", plain);
    }

    @Override
    public Void scan(Tree tree, Void none) {
        if (tree != null) {
            // The label has no name of its own before Java 21.
            boolean known = KINDS.contains(tree.getKind()) || tree.getKind().name().equals("DEFAULT_CASE_LABEL");
            rule(10, tree, tree.getKind() + " is not among what the class needs", known);
        }
        return super.scan(tree, none);
    }

    @Override
    public Void visitImport(ImportTree tree, Void none) {
        rule(4, tree, "import of " + tree.getQualifiedIdentifier(),
                tree.getQualifiedIdentifier().toString().equals("java.util.Arrays"));
        return null;
    }

    @Override
    public Void visitClass(ClassTree tree, Void none) {
        boolean inside = getCurrentPath().getParentPath().getLeaf() != unit;
        if (inside) {
            Set<Modifier> flags = tree.getModifiers().getFlags();
            rule(1, tree, "a class inside is private and static, or seen in the package and static",
                    flags.contains(Modifier.STATIC) && !flags.contains(Modifier.PUBLIC) && !flags.contains(Modifier.PROTECTED));
            rule(2, tree, "a class inside stands in the class itself",
                    getCurrentPath().getParentPath().getParentPath().getLeaf() == unit);
        }
        rule(2, tree, "extends nothing", tree.getExtendsClause() == null && tree.getImplementsClause().isEmpty());
        int fields = 0;
        for (Tree member : tree.getMembers()) {
            rule(5, member, "no block beside the methods", !(member instanceof BlockTree));
            boolean field = member instanceof VariableTree;
            boolean isStatic = field && ((VariableTree) member).getModifiers().getFlags().contains(Modifier.STATIC);
            fields += field && !isStatic ? 1 : 0;
        }
        rule(11, tree, "how many fields: " + fields, fields <= MOST_FIELDS);
        return super.visitClass(tree, none);
    }

    @Override
    public Void visitVariable(VariableTree tree, Void none) {
        Set<Modifier> flags = tree.getModifiers().getFlags();
        rule(3, tree, tree.getName() + " is " + flags, FIELD_FLAGS.containsAll(flags));
        String type = tree.getType().toString();
        String base = type.replace("[]", "");
        boolean numbers = base.equals("int") || base.equals("boolean");
        rule(3, tree, "the type " + type, numbers || ownTypes.contains(base));
        rule(3, tree, "the dimensions of " + type, type.equals(base) || type.equals(base + "[]") || type.equals("int[][]"));
        if (flags.contains(Modifier.STATIC)) {
            VariableElement element = (VariableElement) trees.getElement(getCurrentPath());
            rule(5, tree, tree.getName() + " is a constant", element.getConstantValue() != null);
        }
        return super.visitVariable(tree, none);
    }

    // ---- methods

    @Override
    public Void visitMethod(MethodTree tree, Void none) {
        Element method = trees.getElement(getCurrentPath());
        calls.putIfAbsent(method, new LinkedHashSet<>());
        rule(11, tree, tree.getName() + " has parameters", tree.getParameters().size() <= MOST_PARAMETERS);
        rule(11, tree, tree.getName() + " has lines", linesOf(tree) <= MOST_LINES);
        rule(6, tree, tree.getName() + " is none of Object's", !OF_OBJECT.contains(tree.getName().toString()));
        Set<Modifier> flags = tree.getModifiers().getFlags();
        rule(6, tree, tree.getName() + " is " + flags, METHOD_FLAGS.containsAll(flags));
        return super.visitMethod(tree, none);
    }

    private MethodTree methodAround() {
        for (TreePath path = getCurrentPath(); path != null; path = path.getParentPath()) {
            if (path.getLeaf() instanceof MethodTree) {
                return (MethodTree) path.getLeaf();
            }
        }
        return null;
    }

    private boolean isInConstructor() {
        MethodTree around = methodAround();
        return around == null || around.getName().contentEquals("<init>");
    }

    @Override
    public Void visitMethodInvocation(MethodInvocationTree tree, Void none) {
        ExecutableElement called = (ExecutableElement) trees.getElement(getCurrentPath());
        Element owner = called.getEnclosingElement();
        boolean own = owner.toString().equals("Menuline") || owner.toString().startsWith("Menuline.");
        boolean emptyRoot = owner.toString().equals("java.lang.Object") && called.getKind() == ElementKind.CONSTRUCTOR;
        String name = owner + "." + called.getSimpleName();
        rule(4, tree, "a call of " + name, own || emptyRoot || LIBRARY.contains(name));
        MethodTree around = methodAround();
        if (own && around != null) {
            Element caller = trees.getElement(TreePath.getPath(unit, around));
            calls.computeIfAbsent(caller, it -> new LinkedHashSet<>()).add(called);
            rule(12, tree, "a constructor calls no method", !around.getName().contentEquals("<init>"));
            rule(1, tree, "no call of the face from inside", !called.getModifiers().contains(Modifier.PUBLIC));
        }
        return super.visitMethodInvocation(tree, none);
    }

    private void callGraph() {
        int deepest = 0;
        for (Element method : calls.keySet()) {
            int depth = depthOf(method, new ArrayList<>());
            deepest = Math.max(deepest, depth);
            rule(11, null, "from " + method + " on calls go " + depth + " deep", depth <= MOST_DEPTH);
        }
        rule(11, null, "the scanner saw calls of calls", deepest > 3);
    }

    private int depthOf(Element method, List<Element> open) {
        if (open.contains(method)) {
            rule(8, null, "recursion by " + method, false);
            return 0;
        }
        open.add(method);
        int depth = 0;
        for (Element called : calls.getOrDefault(method, Set.of())) {
            depth = Math.max(depth, depthOf(called, open));
        }
        open.remove(method);
        return depth + 1;
    }

    // ---- what is made, and what is thrown

    @Override
    public Void visitNewClass(NewClassTree tree, Void none) {
        String made = tree.getIdentifier().toString();
        boolean thrown = getCurrentPath().getParentPath().getLeaf() instanceof ThrowTree;
        if (thrown) {
            rule(6, tree, "throws " + made, THROWN.contains(made));
            boolean written = tree.getArguments().size() == 1 && tree.getArguments().get(0).getKind() == Tree.Kind.STRING_LITERAL;
            rule(6, tree, "with a written text", written || tree.getArguments().isEmpty());
        } else {
            rule(12, tree, made + " is made in a constructor", ownTypes.contains(made) && isInConstructor());
        }
        rule(2, tree, "no class without a name", tree.getClassBody() == null);
        return super.visitNewClass(tree, none);
    }

    @Override
    public Void visitThrow(ThrowTree tree, Void none) {
        rule(6, tree, "throw new", tree.getExpression().getKind() == Tree.Kind.NEW_CLASS);
        rule(6, tree, "no throw in a constructor", !isInConstructor());
        return super.visitThrow(tree, none);
    }

    @Override
    public Void visitNewArray(NewArrayTree tree, Void none) {
        rule(12, tree, "an array is made in a constructor", isInConstructor() && tree.getInitializers() == null);
        for (ExpressionTree length : tree.getDimensions()) {
            rule(7, length, "a length above 0", constant(length) > 0);
        }
        return super.visitNewArray(tree, none);
    }

    @Override
    public Void visitLiteral(LiteralTree tree, Void none) {
        if (tree.getValue() instanceof String) {
            rule(4, tree, "signs 1 to 127", ((String) tree.getValue()).chars().allMatch(c -> c >= 1 && c <= 127));
        }
        return super.visitLiteral(tree, none);
    }

    // ---- numbers

    /** The value of a number written out, or of a constant, or of a sum of these; 0 if it is none. */
    private long constant(ExpressionTree tree) {
        if (tree instanceof LiteralTree && ((LiteralTree) tree).getValue() instanceof Integer) {
            return (Integer) ((LiteralTree) tree).getValue();
        }
        if (tree.getKind() == Tree.Kind.PLUS) {
            return constant(((BinaryTree) tree).getLeftOperand()) + constant(((BinaryTree) tree).getRightOperand());
        }
        Element element = elementOf(tree);
        Object value = element instanceof VariableElement ? ((VariableElement) element).getConstantValue() : null;
        return value instanceof Integer ? (Integer) value : 0;
    }

    @Override
    public Void visitBinary(BinaryTree tree, Void none) {
        if (tree.getKind() == Tree.Kind.DIVIDE || tree.getKind() == Tree.Kind.REMAINDER) {
            rule(7, tree, "divides by a constant above 0", constant(tree.getRightOperand()) > 0);
        }
        for (ExpressionTree side : List.of(tree.getLeftOperand(), tree.getRightOperand())) {
            TypeMirror type = trees.getTypeMirror(new TreePath(getCurrentPath(), side));
            rule(6, tree, tree.getKind() + " of " + type, type.toString().equals("int") || type.toString().equals("boolean"));
        }
        return super.visitBinary(tree, none);
    }

    @Override
    public Void visitCompoundAssignment(CompoundAssignmentTree tree, Void none) {
        TypeMirror type = trees.getTypeMirror(new TreePath(getCurrentPath(), tree.getVariable()));
        rule(10, tree, tree.getKind() + " of " + type, type.toString().equals("int"));
        return super.visitCompoundAssignment(tree, none);
    }

    @Override
    public Void visitArrayAccess(ArrayAccessTree tree, Void none) {
        boolean plain = tree.getIndex().getKind() != Tree.Kind.POSTFIX_INCREMENT
                && tree.getIndex().getKind() != Tree.Kind.METHOD_INVOCATION;
        rule(7, tree, "an index that could be looked at before", plain);
        return super.visitArrayAccess(tree, none);
    }

    // ---- loops

    @Override
    public Void visitForLoop(ForLoopTree tree, Void none) {
        boolean one = tree.getInitializer().size() == 1 && tree.getInitializer().get(0) instanceof VariableTree
                && tree.getUpdate().size() == 1;
        rule(9, tree, "a loop with one counter", one);
        if (one) {
            String counter = ((VariableTree) tree.getInitializer().get(0)).getName().toString();
            ExpressionStatementTree step = tree.getUpdate().get(0);
            rule(9, tree, "the counter goes up", step.getExpression().toString().equals(counter + "++"));
            rule(9, tree, "the counter has a bound", isBounded(tree.getCondition(), counter));
            rule(9, tree, "nothing else changes the counter", changesOf(tree.getStatement(), counter) == 0);
        }
        return super.visitForLoop(tree, none);
    }

    @Override
    public Void visitWhileLoop(WhileLoopTree tree, Void none) {
        StatementTree body = tree.getStatement();
        List<? extends StatementTree> all = body instanceof BlockTree ? ((BlockTree) body).getStatements() : List.of(body);
        String last = all.isEmpty() ? "" : all.get(all.size() - 1).toString();
        String counter = last.endsWith("++;") ? last.substring(0, last.length() - 3) : "";
        rule(9, tree, "a counter goes up at the end of each round", !counter.isEmpty());
        rule(9, tree, "the counter has a bound", isBounded(tree.getCondition(), counter));
        rule(9, tree, "nothing else changes the counter", changesOf(body, counter) == 1);
        return super.visitWhileLoop(tree, none);
    }

    /** One of the conditions that hold together says that the counter is below something. */
    private static boolean isBounded(ExpressionTree condition, String counter) {
        if (condition instanceof ParenthesizedTree) {
            return isBounded(((ParenthesizedTree) condition).getExpression(), counter);
        }
        if (!(condition instanceof BinaryTree)) {
            return false;
        }
        BinaryTree both = (BinaryTree) condition;
        if (both.getKind() == Tree.Kind.CONDITIONAL_AND) {
            return isBounded(both.getLeftOperand(), counter) || isBounded(both.getRightOperand(), counter);
        }
        boolean below = both.getKind() == Tree.Kind.LESS_THAN || both.getKind() == Tree.Kind.LESS_THAN_EQUAL;
        return below && both.getLeftOperand().toString().equals(counter);
    }

    private static int changesOf(Tree body, String name) {
        int[] changes = {0};
        new TreeScanner<Void, Void>() {
            private void change(Tree variable) {
                changes[0] += variable.toString().equals(name) ? 1 : 0;
            }

            @Override
            public Void visitAssignment(AssignmentTree tree, Void none) {
                change(tree.getVariable());
                return super.visitAssignment(tree, none);
            }

            @Override
            public Void visitCompoundAssignment(CompoundAssignmentTree tree, Void none) {
                change(tree.getVariable());
                return super.visitCompoundAssignment(tree, none);
            }

            @Override
            public Void visitUnary(UnaryTree tree, Void none) {
                change(tree.getExpression());
                return super.visitUnary(tree, none);
            }
        }.scan(body, null);
        return changes[0];
    }
}
