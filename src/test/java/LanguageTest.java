import com.sun.source.tree.ClassTree;
import com.sun.source.tree.CompilationUnitTree;
import com.sun.source.tree.ExpressionTree;
import com.sun.source.tree.LiteralTree;
import com.sun.source.tree.MethodInvocationTree;
import com.sun.source.tree.MethodTree;
import com.sun.source.tree.NewArrayTree;
import com.sun.source.tree.NewClassTree;
import com.sun.source.tree.ThrowTree;
import com.sun.source.tree.Tree;
import com.sun.source.tree.VariableTree;
import com.sun.source.util.JavacTask;
import com.sun.source.util.TreePath;
import com.sun.source.util.TreePathScanner;
import com.sun.source.util.Trees;
import java.io.File;
import java.io.IOException;
import java.util.EnumSet;
import java.util.HashMap;
import java.util.Map;
import java.util.Set;
import java.util.TreeMap;
import java.util.TreeSet;
import javax.lang.model.element.Element;
import javax.lang.model.element.ElementKind;
import javax.lang.model.element.Modifier;
import javax.tools.JavaCompiler;
import javax.tools.StandardJavaFileManager;
import javax.tools.ToolProvider;

/**
 * The rules of ../shared/LANGUAGE.md that can be seen from the class as it is written. It asks for less than they
 * allow: only what the class uses, so that something new is looked up there before it is let in here.
 */
public final class LanguageTest extends TreePathScanner<Void, Void> {
    private static final Set<Tree.Kind> SYNTAX = EnumSet.of(Tree.Kind.COMPILATION_UNIT, Tree.Kind.CLASS,
            Tree.Kind.METHOD, Tree.Kind.VARIABLE, Tree.Kind.MODIFIERS, Tree.Kind.PRIMITIVE_TYPE, Tree.Kind.ARRAY_TYPE,
            Tree.Kind.BLOCK, Tree.Kind.EXPRESSION_STATEMENT, Tree.Kind.RETURN, Tree.Kind.IF, Tree.Kind.FOR_LOOP,
            Tree.Kind.ENHANCED_FOR_LOOP, Tree.Kind.WHILE_LOOP, Tree.Kind.SWITCH, Tree.Kind.CASE, Tree.Kind.THROW,
            Tree.Kind.IDENTIFIER, Tree.Kind.MEMBER_SELECT, Tree.Kind.ARRAY_ACCESS, Tree.Kind.METHOD_INVOCATION,
            Tree.Kind.NEW_CLASS, Tree.Kind.NEW_ARRAY, Tree.Kind.TYPE_CAST, Tree.Kind.PARENTHESIZED,
            Tree.Kind.CONDITIONAL_EXPRESSION, Tree.Kind.ASSIGNMENT, Tree.Kind.PLUS_ASSIGNMENT,
            Tree.Kind.DIVIDE_ASSIGNMENT, Tree.Kind.UNSIGNED_RIGHT_SHIFT_ASSIGNMENT,
            Tree.Kind.POSTFIX_INCREMENT, Tree.Kind.POSTFIX_DECREMENT, Tree.Kind.UNARY_MINUS,
            Tree.Kind.LOGICAL_COMPLEMENT, Tree.Kind.PLUS, Tree.Kind.MINUS, Tree.Kind.MULTIPLY, Tree.Kind.DIVIDE,
            Tree.Kind.REMAINDER, Tree.Kind.RIGHT_SHIFT, Tree.Kind.UNSIGNED_RIGHT_SHIFT, Tree.Kind.AND,
            Tree.Kind.CONDITIONAL_AND, Tree.Kind.CONDITIONAL_OR, Tree.Kind.EQUAL_TO, Tree.Kind.NOT_EQUAL_TO,
            Tree.Kind.LESS_THAN, Tree.Kind.LESS_THAN_EQUAL, Tree.Kind.GREATER_THAN, Tree.Kind.GREATER_THAN_EQUAL,
            Tree.Kind.INT_LITERAL, Tree.Kind.CHAR_LITERAL, Tree.Kind.BOOLEAN_LITERAL, Tree.Kind.STRING_LITERAL,
            Tree.Kind.NULL_LITERAL);
    private static final Set<String> LIBRARY = Set.of("java.lang.Math.abs", "java.lang.Math.min",
            "java.lang.Math.max", "java.lang.System.arraycopy", "java.lang.Object.<init>");
    private static final Set<String> EXCEPTIONS = Set.of("java.lang.IndexOutOfBoundsException",
            "java.lang.IllegalArgumentException", "java.lang.IllegalStateException");
    private static final Set<String> TYPES = Set.of("int", "long", "char", "boolean", "int[]", "char[]", "boolean[]");
    private static final int MOST_PARAMETERS = 7, MOST_LINES = 60, MOST_CLASSES = 12, MOST_FIELDS = 20, DEEPEST = 8;

    private final Trees trees;
    private final CompilationUnitTree file;
    private final Map<String, Set<String>> calls = new TreeMap<>();
    private int classes = 0;

    private LanguageTest(Trees trees, CompilationUnitTree file) {
        this.trees = trees;
        this.file = file;
    }

    public static void main(String[] args) throws IOException {
        JavaCompiler compiler = ToolProvider.getSystemJavaCompiler();
        try (StandardJavaFileManager files = compiler.getStandardFileManager(null, null, null)) {
            JavacTask task = (JavacTask) compiler.getTask(null, files, null, null, null,
                    files.getJavaFileObjects(new File("src/main/java/MotionPost.java")));
            CompilationUnitTree file = task.parse().iterator().next();
            task.analyze();
            LanguageTest test = new LanguageTest(Trees.instance(task), file);
            test.scan(new TreePath(file), null);
            test.wholeFile();
        }
        Check.end("LanguageTest");
    }

    private void wholeFile() {
        Check.due("rule 1: a package line", file.getPackageName() != null, false);
        Check.due("rule 1: classes beside the public one", file.getTypeDecls().size() - 1, 0);
        Check.due("rule 4: imports", file.getImports().size(), 0);
        Check.due("rule 11: at most so many classes, " + classes, classes <= MOST_CLASSES, true);
        Map<String, Integer> depths = new HashMap<>();
        for (String method : calls.keySet()) {
            int depth = depthOf(method, depths);
            Check.due("rule 11: calls go at most so deep from " + method + ", " + depth, depth <= DEEPEST, true);
        }
    }

    /** How many calls stand open at once behind this one, itself among them; beyond all bounds if it recurs. */
    private int depthOf(String method, Map<String, Integer> depths) {
        if (depths.containsKey(method)) {
            return depths.get(method);
        }
        depths.put(method, 1_000_000);
        int deepest = 0;
        for (String called : calls.getOrDefault(method, Set.of())) {
            deepest = Math.max(deepest, depthOf(called, depths));
        }
        depths.put(method, deepest + 1);
        return deepest + 1;
    }

    @Override
    public Void scan(Tree tree, Void none) {
        if (tree != null) {
            Check.due("rules 2 to 10: " + tree.getKind() + " in line " + lineOf(tree, false),
                    SYNTAX.contains(tree.getKind()), true);
        }
        return super.scan(tree, none);
    }

    @Override
    public Void visitClass(ClassTree tree, Void none) {
        classes++;
        int fields = 0;
        for (Tree member : tree.getMembers()) {
            boolean isField = member instanceof VariableTree;
            fields += isField && !((VariableTree) member).getModifiers().getFlags().contains(Modifier.STATIC) ? 1 : 0;
        }
        Check.due("rule 11: fields of " + tree.getSimpleName() + ", " + fields, fields <= MOST_FIELDS, true);
        return super.visitClass(tree, none);
    }

    @Override
    public Void visitMethod(MethodTree tree, Void none) {
        String name = nameOf(trees.getElement(getCurrentPath()));
        calls.putIfAbsent(name, new TreeSet<>());
        Check.due("rule 11: parameters of " + name, tree.getParameters().size() <= MOST_PARAMETERS, true);
        Check.due("rule 11: lines of " + name, lineOf(tree, true) - lineOf(tree, false) < MOST_LINES, true);
        return super.visitMethod(tree, none);
    }

    @Override
    public Void visitVariable(VariableTree tree, Void none) {
        Element variable = trees.getElement(getCurrentPath());
        Set<Modifier> modifiers = variable.getModifiers();
        String type = variable.asType().toString();
        boolean isOwn = type.startsWith("MotionPost.");
        Check.due("rule 3: type of " + variable + ", " + type, isOwn || TYPES.contains(type), true);
        Check.due("rule 5: " + variable + " is static and not final",
                modifiers.contains(Modifier.STATIC) && !modifiers.contains(Modifier.FINAL), false);
        return super.visitVariable(tree, none);
    }

    @Override
    public Void visitMethodInvocation(MethodInvocationTree tree, Void none) {
        Element called = trees.getElement(getCurrentPath());
        String name = nameOf(called);
        boolean isOwn = name.startsWith("MotionPost.");
        Check.due("rule 4: call of " + name, isOwn || LIBRARY.contains(name), true);
        if (isOwn && around() != null) {
            calls.computeIfAbsent(nameOf(around()), key -> new TreeSet<>()).add(name);
        }
        return super.visitMethodInvocation(tree, none);
    }

    @Override
    public Void visitNewClass(NewClassTree tree, Void none) {
        String type = trees.getTypeMirror(getCurrentPath()).toString();
        boolean isThrown = getCurrentPath().getParentPath().getLeaf() instanceof ThrowTree;
        Check.due("rule 6: exceptions, and they alone, are thrown, " + type, EXCEPTIONS.contains(type), isThrown);
        Check.due("rule 4: an object of " + type, isThrown || type.startsWith("MotionPost."), true);
        Check.due("rule 12: made with the object or thrown, " + type, isThrown || isInMaking(), true);
        return super.visitNewClass(tree, none);
    }

    @Override
    public Void visitNewArray(NewArrayTree tree, Void none) {
        Check.due("rule 12: made with the object, " + tree, isInMaking(), true);
        return super.visitNewArray(tree, none);
    }

    @Override
    public Void visitThrow(ThrowTree tree, Void none) {
        ExpressionTree thrown = tree.getExpression();
        Check.due("rule 6: thrown as new, " + tree, thrown instanceof NewClassTree, true);
        for (ExpressionTree argument : ((NewClassTree) thrown).getArguments()) {
            Check.due("rule 6: with a written text, " + tree, argument.getKind(), Tree.Kind.STRING_LITERAL);
        }
        Check.due("rule 6: in a constructor, " + tree, isInMaking(), false);
        return super.visitThrow(tree, none);
    }

    @Override
    public Void visitLiteral(LiteralTree tree, Void none) {
        boolean isInException = getCurrentPath().getParentPath().getLeaf() instanceof NewClassTree;
        Check.due("rule 10: a text outside an exception, " + tree, tree.getKind() == Tree.Kind.STRING_LITERAL
                && !isInException, false);
        return super.visitLiteral(tree, none);
    }

    private static String nameOf(Element method) {
        return method.getEnclosingElement() + "." + method.getSimpleName();
    }

    private Element around() {
        for (TreePath path = getCurrentPath(); path != null; path = path.getParentPath()) {
            if (path.getLeaf() instanceof MethodTree) {
                return trees.getElement(path);
            }
        }
        return null;
    }

    /** In a constructor, or where a field begins. */
    private boolean isInMaking() {
        return around() == null || around().getKind() == ElementKind.CONSTRUCTOR;
    }

    private long lineOf(Tree tree, boolean end) {
        long place = end ? trees.getSourcePositions().getEndPosition(file, tree)
                : trees.getSourcePositions().getStartPosition(file, tree);
        return place < 0 ? 0 : file.getLineMap().getLineNumber(place);
    }
}
