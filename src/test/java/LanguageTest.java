import com.sun.source.tree.*;
import com.sun.source.util.JavacTask;
import com.sun.source.util.TreePath;
import com.sun.source.util.TreePathScanner;
import com.sun.source.util.TreeScanner;
import com.sun.source.util.Trees;
import java.nio.file.Path;
import java.util.EnumSet;
import java.util.HashMap;
import java.util.HashSet;
import java.util.List;
import java.util.Map;
import java.util.Set;
import javax.lang.model.element.Element;
import javax.lang.model.element.ElementKind;
import javax.lang.model.element.ExecutableElement;
import javax.lang.model.element.Modifier;
import javax.lang.model.type.TypeMirror;
import javax.tools.JavaCompiler;
import javax.tools.StandardJavaFileManager;
import javax.tools.ToolProvider;

/**
 * The class's text against the rules of ../shared/LANGUAGE.md that a text can show. It allows what the class needs, which
 * is less than the rules do: a class that needs more of them may widen the sets below as far as the rules go.
 */
public final class LanguageTest extends TreePathScanner<Void, Void> {
    private static final Check check = new Check();
    private static final String NAME = "Maybehall";
    private static final long NO_CONSTANT = Long.MIN_VALUE;

    private static final Set<Tree.Kind> FORBIDDEN = EnumSet.of(Tree.Kind.IMPORT, Tree.Kind.PACKAGE,
        Tree.Kind.LAMBDA_EXPRESSION, Tree.Kind.MEMBER_REFERENCE, Tree.Kind.TRY, Tree.Kind.SYNCHRONIZED, Tree.Kind.ASSERT,
        Tree.Kind.TYPE_CAST, Tree.Kind.INSTANCE_OF, Tree.Kind.ANNOTATION, Tree.Kind.SWITCH_EXPRESSION,
        Tree.Kind.DIVIDE_ASSIGNMENT, Tree.Kind.REMAINDER_ASSIGNMENT, Tree.Kind.WHILE_LOOP, Tree.Kind.DO_WHILE_LOOP);
    private static final Set<String> TYPES =
        Set.of("void", "int", "long", "boolean", "int[]", "java.lang.String", "java.lang.StringBuilder");
    private static final Set<String> LIBRARY = Set.of("java.lang.Object()", "java.lang.StringBuilder()",
        "java.lang.StringBuilder.append(java.lang.String)", "java.lang.StringBuilder.append(int)",
        "java.lang.StringBuilder.setLength(int)", "java.lang.StringBuilder.length()", "java.lang.StringBuilder.toString()",
        "java.lang.Math.abs(int)", "java.lang.Math.floorMod(int,int)",
        "java.lang.IllegalStateException(java.lang.String)", "java.lang.IllegalArgumentException(java.lang.String)",
        "java.lang.IndexOutOfBoundsException(java.lang.String)");

    private final Trees trees;
    private final CompilationUnitTree unit;
    private final Map<String, Set<String>> calls = new HashMap<>();
    private int classes;
    private int fields;

    private LanguageTest(Trees trees, CompilationUnitTree unit) {
        this.trees = trees;
        this.unit = unit;
    }

    public static void main(String[] args) throws Exception {
        JavaCompiler compiler = ToolProvider.getSystemJavaCompiler();
        try (StandardJavaFileManager files = compiler.getStandardFileManager(null, null, null)) {
            var sources = files.getJavaFileObjects(Path.of("src/main/java/" + NAME + ".java"));
            // Two texts joined by + would be one in the tree already.
            var unfolded = List.of("-XDallowStringFolding=false");
            JavacTask task = (JavacTask) compiler.getTask(null, files, null, unfolded, null, sources);
            CompilationUnitTree unit = task.parse().iterator().next();
            task.analyze();
            LanguageTest test = new LanguageTest(Trees.instance(task), unit);
            test.scan(unit, null);
            test.lookAtWhole();
        }
        check.end();
    }

    private void lookAtWhole() {
        check.due("rule 11: at most twelve classes", true, classes >= 1 && classes <= 12);
        check.due("rule 11: at most twenty fields", true, fields >= 1 && fields <= 20);
        for (String method : calls.keySet()) {
            check.due("rules 8 and 11: calls of " + method + " go at most eight deep", true, depth(method, 1) <= 8);
        }
    }

    /** A method that calls itself, if by others, goes deeper than any bound; nine is enough to tell. */
    private int depth(String method, int above) {
        int deepest = above;
        if (above <= 8) {
            for (String called : calls.getOrDefault(method, Set.of())) {
                deepest = Math.max(deepest, depth(called, above + 1));
            }
        }
        return deepest;
    }

    @Override
    public Void scan(Tree tree, Void nothing) {
        if (tree != null) {
            check.due("rules 2, 4, 6 and 9: " + tree.getKind() + at(tree), false, FORBIDDEN.contains(tree.getKind()));
        }
        return super.scan(tree, nothing);
    }

    @Override
    public Void visitClass(ClassTree tree, Void nothing) {
        classes++;
        check.due("rule 2: a class in a method" + at(tree), false, enclosingMethod() != null);
        for (Tree member : tree.getMembers()) {
            check.due("rule 5: an initialiser block" + at(member), false, member.getKind() == Tree.Kind.BLOCK);
        }
        return super.visitClass(tree, nothing);
    }

    @Override
    public Void visitVariable(VariableTree tree, Void nothing) {
        Element element = element();
        check.due("rule 3: type " + element.asType() + at(tree), true, TYPES.contains(element.asType().toString()));
        if (element.getKind() == ElementKind.FIELD && element.getModifiers().contains(Modifier.STATIC)) {
            check.due("rule 5: " + tree.getName() + " is constant", true,
                element.getModifiers().contains(Modifier.FINAL) && isWritten(tree.getInitializer()));
        } else if (element.getKind() == ElementKind.FIELD) {
            fields++;
        }
        return super.visitVariable(tree, nothing);
    }

    @Override
    public Void visitMethod(MethodTree tree, Void nothing) {
        ExecutableElement element = (ExecutableElement) element();
        check.due("rule 3: type " + element.getReturnType() + at(tree), true,
            TYPES.contains(element.getReturnType().toString()));
        check.due("rule 11: at most seven parameters" + at(tree), true, tree.getParameters().size() <= 7);
        check.due("rule 11: at most sixty lines" + at(tree), true, line(tree, true) - line(tree, false) < 60);
        calls.putIfAbsent(element.toString(), new HashSet<>());
        return super.visitMethod(tree, nothing);
    }

    @Override
    public Void visitMethodInvocation(MethodInvocationTree tree, Void nothing) {
        called(tree);
        return super.visitMethodInvocation(tree, nothing);
    }

    @Override
    public Void visitNewClass(NewClassTree tree, Void nothing) {
        called(tree);
        check.due("rules 2 and 12: " + tree + " is made in a constructor, or thrown" + at(tree), true,
            tree.getClassBody() == null && (isInConstructor() || parent() instanceof ThrowTree));
        return super.visitNewClass(tree, nothing);
    }

    @Override
    public Void visitNewArray(NewArrayTree tree, Void nothing) {
        check.due("rules 7 and 12: " + tree + " is of a written length, in a constructor" + at(tree), true,
            isInConstructor() && tree.getDimensions().size() == 1 && constant(tree.getDimensions().get(0)) >= 0);
        return super.visitNewArray(tree, nothing);
    }

    @Override
    public Void visitThrow(ThrowTree tree, Void nothing) {
        boolean isPlain = tree.getExpression() instanceof NewClassTree made && made.getArguments().size() == 1
            && made.getArguments().get(0).getKind() == Tree.Kind.STRING_LITERAL;
        check.due("rule 6: " + tree + at(tree), true, isPlain && !isInConstructor());
        return super.visitThrow(tree, nothing);
    }

    @Override
    public Void visitLiteral(LiteralTree tree, Void nothing) {
        if (tree.getValue() instanceof String text) {
            check.due("rule 4: the signs of " + tree, true, text.chars().allMatch(sign -> sign >= 1 && sign <= 127));
        }
        return super.visitLiteral(tree, nothing);
    }

    @Override
    public Void visitBinary(BinaryTree tree, Void nothing) {
        Tree.Kind kind = tree.getKind();
        if (kind == Tree.Kind.DIVIDE || kind == Tree.Kind.REMAINDER) {
            long divisor = constant(tree.getRightOperand());
            check.due("rule 7: the divisor of " + tree + at(tree), true, divisor != 0 && divisor != NO_CONSTANT);
        }
        boolean isOfNumbers = type(tree.getLeftOperand()).getKind().isPrimitive()
            && type(tree.getRightOperand()).getKind().isPrimitive();
        check.due("rules 6 and 10: " + tree + " is of numbers" + at(tree), true, isOfNumbers);
        return super.visitBinary(tree, nothing);
    }

    @Override
    public Void visitForLoop(ForLoopTree tree, Void nothing) {
        boolean isCounted = tree.getInitializer().size() == 1 && tree.getInitializer().get(0) instanceof VariableTree
            && tree.getCondition().getKind() == Tree.Kind.LESS_THAN
            && tree.getUpdate().size() == 1
            && tree.getUpdate().get(0).getExpression().getKind() == Tree.Kind.POSTFIX_INCREMENT;
        check.due("rule 9: a counter against a bound" + at(tree), true, isCounted);
        if (isCounted) {
            String counter = ((VariableTree) tree.getInitializer().get(0)).getName().toString();
            BinaryTree ends = (BinaryTree) tree.getCondition();
            check.due("rule 9: the counter" + at(tree), counter, ends.getLeftOperand().toString());
            check.due("rule 9: the counter's step" + at(tree), counter + "++", tree.getUpdate().get(0).getExpression().toString());
            check.due("rule 9: a written bound" + at(tree), true, constant(ends.getRightOperand()) > 0);
            check.due("rule 9: the counter is left alone" + at(tree), false, changes(tree.getStatement(), counter));
        }
        return super.visitForLoop(tree, nothing);
    }

    @Override
    public Void visitArrayAccess(ArrayAccessTree tree, Void nothing) {
        String row = tree.getExpression().toString();
        check.due("rule 7: the row " + row + at(tree), true, row.equals("boxes") || row.equals("plains"));
        check.due("rule 7: the index of " + tree + at(tree), true, isWithin(tree.getIndex(), getCurrentPath(), row));
        return super.visitArrayAccess(tree, nothing);
    }

    /** A written place, a counter of a loop to the row's bound, or one that the method or its callers looked at. */
    private boolean isWithin(ExpressionTree index, TreePath where, String row) {
        String bound = row.equals("boxes") ? "BOXES" : "PLAINS";
        if (index.getKind() == Tree.Kind.INT_LITERAL) {
            int place = (Integer) ((LiteralTree) index).getValue();
            return place >= 0 && place < (row.equals("boxes") ? 6 : 2);
        }
        if (index.toString().startsWith("Math.floorMod(") && index.toString().endsWith(", " + bound + ")")) {
            return true;
        }
        for (TreePath path = where; path != null; path = path.getParentPath()) {
            if (path.getLeaf() instanceof ForLoopTree loop
                    && loop.getCondition().toString().equals(index + " < " + bound)) {
                return ((VariableTree) loop.getInitializer().get(0)).getInitializer().toString().equals("0");
            }
            if (path.getLeaf() instanceof MethodTree method) {
                return isLookedAt(method, index.toString(), row) || isToldWithin(method, index.toString(), row);
            }
        }
        return false;
    }

    /** The method's first statements are calls that throw if what they are told is outside. */
    private static boolean isLookedAt(MethodTree method, String name, String row) {
        String look = (row.equals("boxes") ? "needBox(" : "needPlain(") + name + ");";
        for (StatementTree statement : method.getBody().getStatements()) {
            if (!statement.toString().startsWith("need")) {
                return false;
            }
            if (statement.toString().equals(look)) {
                return !changes(method.getBody(), name);
            }
        }
        return false;
    }

    private boolean isToldWithin(MethodTree method, String name, String row) {
        int told = 0;
        while (told < method.getParameters().size() && !method.getParameters().get(told).getName().contentEquals(name)) {
            told++;
        }
        if (told == method.getParameters().size() || !method.getModifiers().getFlags().contains(Modifier.PRIVATE)
                || changes(method.getBody(), name)) {
            return false;
        }
        int place = told;
        boolean[] isWithin = {true};
        new TreePathScanner<Void, Void>() {
            @Override
            public Void visitMethodInvocation(MethodInvocationTree tree, Void nothing) {
                if (tree.getMethodSelect().toString().equals(method.getName().toString())) {
                    isWithin[0] &= LanguageTest.this.isWithin(tree.getArguments().get(place), getCurrentPath(), row);
                }
                return super.visitMethodInvocation(tree, nothing);
            }
        }.scan(unit, null);
        return isWithin[0];
    }

    private static boolean changes(Tree tree, String name) {
        boolean[] isChanged = {false};
        new TreeScanner<Void, Void>() {
            @Override
            public Void visitAssignment(AssignmentTree each, Void nothing) {
                isChanged[0] |= each.getVariable().toString().equals(name);
                return super.visitAssignment(each, nothing);
            }

            @Override
            public Void visitCompoundAssignment(CompoundAssignmentTree each, Void nothing) {
                isChanged[0] |= each.getVariable().toString().equals(name);
                return super.visitCompoundAssignment(each, nothing);
            }

            @Override
            public Void visitUnary(UnaryTree each, Void nothing) {
                boolean isStep = each.getKind().toString().contains("CREMENT");
                isChanged[0] |= isStep && each.getExpression().toString().equals(name);
                return super.visitUnary(each, nothing);
            }
        }.scan(tree, null);
        return isChanged[0];
    }

    private void called(Tree tree) {
        ExecutableElement element = (ExecutableElement) element();
        // What StringBuilder inherits stands in a class that has no name outside the library.
        String owner = element.getEnclosingElement().toString().replace("AbstractStringBuilder", "StringBuilder");
        if (owner.equals(NAME)) {
            MethodTree caller = enclosingMethod();
            String name = trees.getElement(trees.getPath(unit, caller)).toString();
            calls.computeIfAbsent(name, each -> new HashSet<>()).add(element.toString());
        } else {
            String dot = element.getKind() == ElementKind.CONSTRUCTOR ? "" : ".";
            String told = element.toString();
            String full = owner + dot + (dot.isEmpty() ? told.substring(told.indexOf('(')) : told);
            check.due("rule 4: " + full + at(tree), true, LIBRARY.contains(full));
        }
    }

    private boolean isWritten(ExpressionTree value) {
        return value != null && constant(value) != NO_CONSTANT;
    }

    /** The value of a whole number as it is written, or of a constant that is one; NO_CONSTANT else. */
    private long constant(ExpressionTree tree) {
        if (tree instanceof LiteralTree literal && literal.getValue() instanceof Number number) {
            return number.longValue();
        }
        if (tree.getKind() == Tree.Kind.UNARY_MINUS) {
            return -constant(((UnaryTree) tree).getExpression());
        }
        Element element = trees.getElement(trees.getPath(unit, tree));
        Object value = element instanceof javax.lang.model.element.VariableElement named ? named.getConstantValue() : null;
        return value instanceof Number number ? number.longValue() : NO_CONSTANT;
    }

    private Element element() {
        return trees.getElement(getCurrentPath());
    }

    private TypeMirror type(Tree tree) {
        return trees.getTypeMirror(trees.getPath(unit, tree));
    }

    private Tree parent() {
        return getCurrentPath().getParentPath().getLeaf();
    }

    private MethodTree enclosingMethod() {
        for (TreePath path = getCurrentPath(); path != null; path = path.getParentPath()) {
            if (path.getLeaf() instanceof MethodTree method) {
                return method;
            }
        }
        return null;
    }

    private boolean isInConstructor() {
        MethodTree method = enclosingMethod();
        return method != null && method.getReturnType() == null;
    }

    private String at(Tree tree) {
        return " in line " + line(tree, false);
    }

    private long line(Tree tree, boolean isEnd) {
        var positions = trees.getSourcePositions();
        long place = isEnd ? positions.getEndPosition(unit, tree) : positions.getStartPosition(unit, tree);
        return place < 0 ? 0 : unit.getLineMap().getLineNumber(place);
    }
}
