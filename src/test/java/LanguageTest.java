import com.sun.source.tree.*;
import com.sun.source.util.JavacTask;
import com.sun.source.util.TreePathScanner;
import com.sun.source.util.Trees;
import java.io.IOException;
import java.nio.file.Files;
import java.nio.file.Path;
import java.util.HashMap;
import java.util.HashSet;
import java.util.List;
import java.util.Map;
import java.util.Set;
import java.util.TreeSet;
import java.util.regex.Matcher;
import java.util.regex.Pattern;
import javax.lang.model.element.Element;
import javax.lang.model.element.ElementKind;
import javax.lang.model.element.ExecutableElement;
import javax.lang.model.element.Modifier;
import javax.lang.model.element.VariableElement;
import javax.lang.model.type.TypeMirror;
import javax.tools.JavaCompiler;
import javax.tools.StandardJavaFileManager;
import javax.tools.ToolProvider;

/**
 * The rules of LANGUAGE.md, read off the class as the compiler sees it. Where the class does
 * without something that a rule allows (recursion, lists, try), the test asks that it stays so.
 */
public final class LanguageTest extends TreePathScanner<Void, Void> {
    private static final Path SOURCE = Path.of("src/main/java/LaneCrowds.java");
    private static final int DEEPEST = 8;
    private static final int LONGEST = 60;
    private static final Set<Tree.Kind> FORBIDDEN = Set.of(
        Tree.Kind.LAMBDA_EXPRESSION, Tree.Kind.MEMBER_REFERENCE, Tree.Kind.SYNCHRONIZED, Tree.Kind.ASSERT,
        Tree.Kind.TRY, Tree.Kind.WHILE_LOOP, Tree.Kind.DO_WHILE_LOOP, Tree.Kind.ENHANCED_FOR_LOOP,
        Tree.Kind.INSTANCE_OF, Tree.Kind.SWITCH_EXPRESSION, Tree.Kind.ANNOTATION, Tree.Kind.PACKAGE,
        Tree.Kind.RECORD, Tree.Kind.ENUM, Tree.Kind.INTERFACE, Tree.Kind.NULL_LITERAL, Tree.Kind.FLOAT_LITERAL);
    private static final Set<String> LIBRARY = Set.of(
        "Math.min", "Math.max", "Math.abs", "System.arraycopy", "Arrays.fill", "Object.<init>");
    private static final Set<String> EXCEPTIONS = Set.of(
        "IllegalStateException", "IllegalArgumentException", "IndexOutOfBoundsException");
    private static final Set<String> TYPES = Set.of(
        "int", "long", "boolean", "double", "int[]", "Night", "Ways", "Quarter", "Crowd", "Patrol", "Crowd[]", "Patrol[]");
    private static final Set<Modifier> CONSTANT = Set.of(Modifier.PRIVATE, Modifier.STATIC, Modifier.FINAL);

    private static final Checks checks = new Checks();

    private final CompilationUnitTree unit;
    private final Trees trees;
    /** Which functions of its own each function calls. */
    private final Map<Element, Set<Element>> calls = new HashMap<>();
    private final Set<String> looping = new HashSet<>();
    private Element caller;
    private int classes;

    private LanguageTest(CompilationUnitTree unit, Trees trees) {
        this.unit = unit;
        this.trees = trees;
    }

    public static void main(String[] args) throws IOException {
        String text = Files.readString(SOURCE);
        checks.holds("characters of 10 to 126 alone", text.chars().allMatch(c -> c == 10 || c >= 32 && c < 127));
        headings(text);
        JavaCompiler compiler = ToolProvider.getSystemJavaCompiler();
        try (StandardJavaFileManager files = compiler.getStandardFileManager(null, null, null)) {
            JavacTask task = (JavacTask) compiler.getTask(null, files, null, List.of("--release", "17", "-proc:none"),
                null, files.getJavaFileObjects(SOURCE));
            CompilationUnitTree unit = task.parse().iterator().next();
            task.analyze();
            LanguageTest test = new LanguageTest(unit, Trees.instance(task));
            test.scan(unit, null);
            test.wholeFile();
        }
        checks.end();
    }

    /** The interface says them ahead of certain calls. */
    private static void headings(String text) {
        Matcher found = Pattern.compile("// (---- [a-z ]+)|    public \\w+ (\\w+)\\(").matcher(text);
        StringBuilder got = new StringBuilder();
        while (found.find()) {
            got.append(found.group(1) != null ? found.group(1) : found.group(2)).append('\n');
        }
        String due = "---- the quarter\nhouse\nblock\ncell\n"
            + "---- crowds and patrols\ngather\norder\ntorch\npatrol\ncrowd\nguard\nsees\ncount\n"
            + "---- ways\nway\nshuts\n---- steps\npass\nforesee\nadvise\nmean\ndigest\n";
        checks.holds("the calls below their headings, in their order:\n" + got, got.toString().equals(due));
    }

    private void wholeFile() {
        for (ImportTree one : unit.getImports()) {
            checks.holds(one.toString(), one.getQualifiedIdentifier().toString().equals("java.util.Arrays"));
        }
        checks.same("public classes", unit.getTypeDecls().size(), 1);
        checks.holds(classes + " classes, at most 12", classes <= 12);
        Set<String> tooDeep = new TreeSet<>();
        for (Element start : calls.keySet()) {
            if (depth(start, 1) > DEEPEST) {
                tooDeep.add(start.toString());
            }
        }
        checks.holds("calls at most 8 deep, and no recursion " + tooDeep + looping, tooDeep.isEmpty() && looping.isEmpty());
    }

    private int depth(Element from, int at) {
        if (at > 40) {
            looping.add(from.toString());
            return at;
        }
        int deepest = at;
        for (Element to : calls.getOrDefault(from, Set.of())) {
            deepest = Math.max(deepest, depth(to, at + 1));
        }
        return deepest;
    }

    private Element element() {
        return trees.getElement(getCurrentPath());
    }

    private TypeMirror type(Tree tree) {
        return trees.getTypeMirror(trees.getPath(unit, tree));
    }

    private static String plain(Object type) {
        return type.toString().replaceAll("[a-zA-Z]+\\.", "");
    }

    private long line(long position) {
        return unit.getLineMap().getLineNumber(position);
    }

    @Override
    public Void scan(Tree tree, Void none) {
        checks.holds("no " + (tree == null ? "" : tree.getKind() + ": " + tree), tree == null || !FORBIDDEN.contains(tree.getKind()));
        return super.scan(tree, none);
    }

    @Override
    public Void visitClass(ClassTree tree, Void none) {
        classes++;
        Set<Modifier> modifiers = tree.getModifiers().getFlags();
        boolean outer = tree.getSimpleName().contentEquals("LaneCrowds");
        checks.holds("modifiers of class " + tree.getSimpleName(),
            modifiers.equals(outer ? Set.of(Modifier.PUBLIC, Modifier.FINAL) : CONSTANT));
        checks.holds(tree.getSimpleName() + " extends nothing",
            tree.getExtendsClause() == null && tree.getImplementsClause().isEmpty() && tree.getTypeParameters().isEmpty());
        int fields = 0;
        for (Tree member : tree.getMembers()) {
            checks.holds("no initialiser block in " + tree.getSimpleName(), member.getKind() != Tree.Kind.BLOCK);
            fields += member instanceof VariableTree one && !one.getModifiers().getFlags().equals(CONSTANT) ? 1 : 0;
        }
        checks.holds(tree.getSimpleName() + " with at most 20 fields", fields <= 20);
        return super.visitClass(tree, none);
    }

    @Override
    public Void visitVariable(VariableTree tree, Void none) {
        VariableElement one = (VariableElement) element();
        checks.holds("type of " + tree, TYPES.contains(plain(one.asType())));
        if (one.getKind() == ElementKind.FIELD) {
            boolean constant = one.getModifiers().equals(CONSTANT) && one.getConstantValue() != null;
            checks.holds("a constant, or private and not static: " + tree,
                constant || one.getModifiers().contains(Modifier.PRIVATE) && !one.getModifiers().contains(Modifier.STATIC));
        }
        return super.visitVariable(tree, none);
    }

    @Override
    public Void visitMethod(MethodTree tree, Void none) {
        Element outer = caller;
        caller = element();
        calls.putIfAbsent(caller, new HashSet<>());
        checks.holds(tree.getName() + " with at most 7 parameters", tree.getParameters().size() <= 7);
        long start = trees.getSourcePositions().getStartPosition(unit, tree);
        long end = trees.getSourcePositions().getEndPosition(unit, tree);
        // A constructor that is not written stands nowhere.
        checks.holds(tree.getName() + " short", end < 0 || line(end) - line(start) < LONGEST);
        super.visitMethod(tree, none);
        caller = outer;
        return null;
    }

    @Override
    public Void visitMethodInvocation(MethodInvocationTree tree, Void none) {
        ExecutableElement called = (ExecutableElement) element();
        if (isOwn(called)) {
            calls.get(caller).add(called);
        } else {
            checks.holds("library " + tree, LIBRARY.contains(called.getEnclosingElement().getSimpleName() + "." + called.getSimpleName()));
        }
        return super.visitMethodInvocation(tree, none);
    }

    private boolean isOwn(Element one) {
        return one.getEnclosingElement().toString().startsWith("LaneCrowds");
    }

    @Override
    public Void visitNewClass(NewClassTree tree, Void none) {
        checks.holds("no class without a name: " + tree, tree.getClassBody() == null);
        boolean thrown = getCurrentPath().getParentPath().getLeaf().getKind() == Tree.Kind.THROW;
        boolean constructs = caller.getKind() == ElementKind.CONSTRUCTOR;
        if (thrown) {
            checks.holds("exception " + tree, EXCEPTIONS.contains(tree.getIdentifier().toString())
                && tree.getArguments().size() <= 1
                && tree.getArguments().stream().allMatch(a -> a.getKind() == Tree.Kind.STRING_LITERAL) && !constructs);
        } else {
            checks.holds("made in a constructor: " + tree, constructs && isOwn(element()));
            calls.get(caller).add(element());
        }
        return super.visitNewClass(tree, none);
    }

    @Override
    public Void visitNewArray(NewArrayTree tree, Void none) {
        checks.holds("made in a constructor: " + tree, caller != null && caller.getKind() == ElementKind.CONSTRUCTOR);
        return super.visitNewArray(tree, none);
    }

    @Override
    public Void visitThrow(ThrowTree tree, Void none) {
        checks.holds("a new exception: " + tree, tree.getExpression().getKind() == Tree.Kind.NEW_CLASS);
        return super.visitThrow(tree, none);
    }

    @Override
    public Void visitForLoop(ForLoopTree tree, Void none) {
        checks.holds("a counter and a bound: " + tree, tree.getCondition() != null && tree.getUpdate().size() == 1
            && tree.getUpdate().get(0).toString().matches("\\w+\\+\\+|\\(?\\w+\\+\\+\\)?;"));
        return super.visitForLoop(tree, none);
    }

    @Override
    public Void visitTypeCast(TypeCastTree tree, Void none) {
        checks.holds("a cast among numbers: " + tree, type(tree.getType()).getKind().isPrimitive());
        return super.visitTypeCast(tree, none);
    }

    @Override
    public Void visitBinary(BinaryTree tree, Void none) {
        boolean divides = tree.getKind() == Tree.Kind.DIVIDE || tree.getKind() == Tree.Kind.REMAINDER;
        if (divides && !plain(type(tree)).equals("double")) {
            checks.holds("a written divisor: " + tree, constant(tree.getRightOperand()) != 0);
        }
        if (tree.getKind() == Tree.Kind.PLUS) {
            checks.holds("no text joined by " + tree, type(tree).getKind().isPrimitive());
        }
        boolean compares = tree.getKind() == Tree.Kind.EQUAL_TO || tree.getKind() == Tree.Kind.NOT_EQUAL_TO;
        checks.holds("only numbers compared: " + tree, !compares || type(tree.getLeftOperand()).getKind().isPrimitive());
        return super.visitBinary(tree, none);
    }

    /** A number as it is written, or a constant's; 0 for all else. */
    private long constant(Tree tree) {
        if (tree instanceof LiteralTree literal && literal.getValue() instanceof Integer number) {
            return number;
        }
        Element named = trees.getElement(trees.getPath(unit, tree));
        return named instanceof VariableElement one && one.getConstantValue() instanceof Integer number ? number : 0;
    }
}
