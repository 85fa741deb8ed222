import com.sun.source.tree.ArrayAccessTree;
import com.sun.source.tree.BinaryTree;
import com.sun.source.tree.ClassTree;
import com.sun.source.tree.CompilationUnitTree;
import com.sun.source.tree.ForLoopTree;
import com.sun.source.tree.MethodInvocationTree;
import com.sun.source.tree.MethodTree;
import com.sun.source.tree.NewArrayTree;
import com.sun.source.tree.NewClassTree;
import com.sun.source.tree.Tree;
import com.sun.source.tree.VariableTree;
import com.sun.source.util.JavacTask;
import com.sun.source.util.SourcePositions;
import com.sun.source.util.TreePath;
import com.sun.source.util.TreePathScanner;
import com.sun.source.util.Trees;
import java.io.IOException;
import java.nio.file.Path;
import java.util.HashMap;
import java.util.HashSet;
import java.util.List;
import java.util.Map;
import java.util.Set;
import java.util.TreeMap;
import java.util.TreeSet;
import javax.lang.model.element.Element;
import javax.lang.model.element.ElementKind;
import javax.lang.model.element.ExecutableElement;
import javax.lang.model.element.Modifier;
import javax.lang.model.element.TypeElement;
import javax.lang.model.element.VariableElement;
import javax.lang.model.type.TypeKind;
import javax.lang.model.type.TypeMirror;
import javax.lang.model.util.Types;
import javax.tools.JavaCompiler;
import javax.tools.StandardJavaFileManager;
import javax.tools.ToolProvider;

/** The rules of ../shared/LANGUAGE.md that can be seen in the program as the compiler reads it. */
public final class LanguageTreeTest extends TreePathScanner<Void, Void> {
    // some of these are fine by the rules, but the program does without: one that comes is to be looked at
    private static final Set<Tree.Kind> NEVER = Set.of(Tree.Kind.THROW, Tree.Kind.TRY, Tree.Kind.CATCH,
        Tree.Kind.SYNCHRONIZED, Tree.Kind.ASSERT, Tree.Kind.LAMBDA_EXPRESSION, Tree.Kind.MEMBER_REFERENCE,
        Tree.Kind.ANNOTATION, Tree.Kind.PACKAGE, Tree.Kind.TYPE_CAST, Tree.Kind.INSTANCE_OF,
        Tree.Kind.BINDING_PATTERN, Tree.Kind.SWITCH_EXPRESSION, Tree.Kind.YIELD, Tree.Kind.WHILE_LOOP,
        Tree.Kind.DO_WHILE_LOOP, Tree.Kind.ENHANCED_FOR_LOOP);
    private static final Set<String> LIBRARY = Set.of("String.length", "String.charAt", "ArrayList.<init>",
        "List.add", "List.get", "List.remove", "List.size", "Math.min", "Math.max", "Math.abs", "Integer.bitCount",
        "Integer.numberOfTrailingZeros", "Object.<init>");
    private static final Set<String> TYPES = Set.of("int", "long", "boolean", "int[]", "void", "java.lang.String");
    // each is guarded: a bit set that loses one, and a count of what is open
    private static final Set<String> CALL_THEMSELVES = Set.of("LaidQuarrel.bestLine", "Cellar.readEither",
        "Cellar.readFactor", "Cellar.readBracket");

    private final Trees trees;
    private final Types types;
    private final SourcePositions positions;
    private final Map<String, Set<String>> calls = new TreeMap<>();
    private final Map<String, Set<String>> overriders = new HashMap<>();
    private int classes;
    private int loops;

    private LanguageTreeTest(JavacTask task) {
        trees = Trees.instance(task);
        types = task.getTypes();
        positions = trees.getSourcePositions();
    }

    private Element element(Tree tree) {
        return trees.getElement(new TreePath(getCurrentPath(), tree));
    }

    private TypeMirror type(Tree tree) {
        return trees.getTypeMirror(new TreePath(getCurrentPath(), tree));
    }

    private String where(Tree tree) {
        CompilationUnitTree unit = getCurrentPath().getCompilationUnit();
        return "line " + unit.getLineMap().getLineNumber(positions.getStartPosition(unit, tree)) + ": ";
    }

    private long lines(Tree tree) {
        CompilationUnitTree unit = getCurrentPath().getCompilationUnit();
        return 1 + unit.getLineMap().getLineNumber(positions.getEndPosition(unit, tree))
            - unit.getLineMap().getLineNumber(positions.getStartPosition(unit, tree));
    }

    private static boolean isOwn(Element one) {
        Element at = one;
        while (at.getEnclosingElement().getKind() != ElementKind.PACKAGE) {
            at = at.getEnclosingElement();
        }
        return at.getSimpleName().contentEquals("LaidQuarrel");
    }

    private static String name(Element member) {
        return member.getEnclosingElement().getSimpleName() + "." + member.getSimpleName();
    }

    private boolean mayBe(TypeMirror type) {
        String name = type.toString();
        if (TYPES.contains(name)) {
            return true;
        }
        if (type.getKind() != TypeKind.DECLARED) {
            return false;
        }
        return isOwn(types.asElement(type)) || name.equals("java.util.List<LaidQuarrel.Bottle>")
            || name.equals("java.util.ArrayList<LaidQuarrel.Bottle>");
    }

    @Override
    public Void scan(Tree tree, Void none) {
        if (tree != null) {
            Check.holds(tree.getKind() + " never stands in the program", !NEVER.contains(tree.getKind()));
        }
        return super.scan(tree, none);
    }

    @Override
    public Void visitClass(ClassTree tree, Void none) {
        classes++;
        TypeElement one = (TypeElement) element(tree);
        boolean isFace = one.getEnclosingElement().getKind() == ElementKind.PACKAGE;
        Check.holds(where(tree) + "a class inside is static, of the face and not open", isFace
            || one.getModifiers().contains(Modifier.STATIC) && !one.getModifiers().contains(Modifier.PUBLIC)
            && !one.getModifiers().contains(Modifier.PROTECTED)
            && one.getEnclosingElement().getSimpleName().contentEquals("LaidQuarrel"));
        int fields = 0;
        for (Tree member : tree.getMembers()) {
            Check.holds(where(member) + "no block stands beside methods", member.getKind() != Tree.Kind.BLOCK);
            fields += member.getKind() == Tree.Kind.VARIABLE
                && !((VariableTree) member).getModifiers().getFlags().contains(Modifier.STATIC) ? 1 : 0;
        }
        Check.holds(where(tree) + "some twenty fields: " + fields, fields <= 20);
        return super.visitClass(tree, none);
    }

    @Override
    public Void visitVariable(VariableTree tree, Void none) {
        VariableElement one = (VariableElement) trees.getElement(getCurrentPath());
        Check.holds(where(tree) + "type of " + one, mayBe(one.asType()));
        if (one.getModifiers().contains(Modifier.STATIC)) {
            Check.holds(where(tree) + "a constant: " + one, one.getModifiers().contains(Modifier.FINAL)
                && one.getConstantValue() != null);
        }
        return super.visitVariable(tree, none);
    }

    @Override
    public Void visitMethod(MethodTree tree, Void none) {
        ExecutableElement one = (ExecutableElement) trees.getElement(getCurrentPath());
        calls.putIfAbsent(name(one), new TreeSet<>());
        Check.holds(where(tree) + "at most seven parameters", tree.getParameters().size() <= 7);
        Check.holds(where(tree) + "some sixty lines: " + lines(tree), lines(tree) <= 60);
        Check.holds(where(tree) + "answer", mayBe(one.getReturnType()));
        TypeMirror above = ((TypeElement) one.getEnclosingElement()).getSuperclass();
        while (above.getKind() == TypeKind.DECLARED && isOwn(types.asElement(above))) {
            String over = types.asElement(above).getSimpleName() + "." + one.getSimpleName();
            overriders.computeIfAbsent(over, key -> new HashSet<>()).add(name(one));
            above = ((TypeElement) types.asElement(above)).getSuperclass();
        }
        return super.visitMethod(tree, none);
    }

    private String caller() {
        TreePath path = getCurrentPath();
        while (path != null && path.getLeaf().getKind() != Tree.Kind.METHOD) {
            path = path.getParentPath();
        }
        return path == null ? "fields" : name(trees.getElement(path));
    }

    @Override
    public Void visitMethodInvocation(MethodInvocationTree tree, Void none) {
        Element one = trees.getElement(getCurrentPath());
        String text = tree.getMethodSelect().toString();
        if (!isOwn(one)) {
            Check.holds(where(tree) + "of the library: " + name(one), LIBRARY.contains(name(one)));
        }
        // what is called by super is one body, all else may be one that is put in its place
        boolean oneBody = text.startsWith("super.") || text.equals("super");
        calls.computeIfAbsent(caller(), key -> new TreeSet<>()).add((oneBody ? "" : "~") + name(one));
        return super.visitMethodInvocation(tree, none);
    }

    @Override
    public Void visitNewClass(NewClassTree tree, Void none) {
        Check.holds(where(tree) + "no class without a name", tree.getClassBody() == null);
        Check.holds(where(tree) + "nothing is made in a loop", loops == 0);
        Element one = trees.getElement(getCurrentPath());
        Check.holds(where(tree) + "made: " + name(one), isOwn(one) || LIBRARY.contains(name(one)));
        calls.computeIfAbsent(caller(), key -> new TreeSet<>()).add(name(one));
        return super.visitNewClass(tree, none);
    }

    @Override
    public Void visitNewArray(NewArrayTree tree, Void none) {
        Check.holds(where(tree) + "no row is made in a loop", loops == 0);
        return super.visitNewArray(tree, none);
    }

    @Override
    public Void visitForLoop(ForLoopTree tree, Void none) {
        Check.holds(where(tree) + "a loop has a bound and a counter", tree.getCondition() != null
            && tree.getInitializer().size() == 1 && tree.getUpdate().size() == 1);
        loops++;
        super.visitForLoop(tree, none);
        loops--;
        return null;
    }

    @Override
    public Void visitBinary(BinaryTree tree, Void none) {
        TypeMirror left = type(tree.getLeftOperand());
        TypeMirror right = type(tree.getRightOperand());
        boolean text = left.toString().endsWith("String") || right.toString().endsWith("String")
            || left.toString().endsWith("Integer") || right.toString().endsWith("Integer");
        Check.holds(where(tree) + "no text is joined or held to another by a sign", !text);
        if (tree.getKind() == Tree.Kind.DIVIDE || tree.getKind() == Tree.Kind.REMAINDER) {
            boolean isNumber = tree.getRightOperand().getKind() == Tree.Kind.INT_LITERAL
                || ((VariableElement) element(tree.getRightOperand())).getConstantValue() != null;
            Check.holds(where(tree) + "what divides is a constant, or fraction()'s above 1: " + tree,
                isNumber || caller().equals("LaidQuarrel.fraction"));
        }
        return super.visitBinary(tree, none);
    }

    @Override
    public Void visitArrayAccess(ArrayAccessTree tree, Void none) {
        Check.holds(where(tree) + "an index stands where it is looked at: " + caller(),
            Set.of("Shelf.add", "Shelf.at", "Shelf.put", "Shelf.copy", "Laid.tell", "Laid.telling").contains(caller()));
        return super.visitArrayAccess(tree, none);
    }

    // ---- how deep calls go

    private Set<String> called(String from) {
        Set<String> to = new TreeSet<>();
        for (String call : calls.getOrDefault(from, Set.of())) {
            String plain = call.startsWith("~") ? call.substring(1) : call;
            to.add(plain);
            if (call.startsWith("~")) {
                to.addAll(overriders.getOrDefault(plain, Set.of()));
            }
        }
        return to;
    }

    /** The most calls open at once from here on; one that calls itself counts once. */
    private int depth(String from, Set<String> open) {
        int most = 0;
        for (String to : called(from)) {
            if (open.contains(to)) {
                Check.holds(to + " calls itself: " + open, CALL_THEMSELVES.contains(to));
            } else {
                Set<String> more = new HashSet<>(open);
                more.add(to);
                most = Math.max(most, depth(to, more));
            }
        }
        return 1 + most;
    }

    public static void main(String[] args) throws IOException {
        Path program = Path.of("src/main/java/LaidQuarrel.java");
        JavaCompiler compiler = ToolProvider.getSystemJavaCompiler();
        StandardJavaFileManager files = compiler.getStandardFileManager(null, null, null);
        JavacTask task = (JavacTask) compiler.getTask(null, files, null, List.of("-proc:none"), null,
            files.getJavaFileObjects(program));
        LanguageTreeTest all = new LanguageTreeTest(task);
        Iterable<? extends CompilationUnitTree> units = task.parse();
        task.analyze();
        for (CompilationUnitTree unit : units) {
            all.scan(unit, null);
        }
        Check.holds("some twelve classes: " + all.classes, all.classes <= 12);
        for (String method : all.calls.keySet()) {
            int depth = all.depth(method, Set.of(method));
            Check.holds("at most eight deep from " + method + ": " + depth, depth <= 8);
        }
        Check.end("LanguageTreeTest");
    }
}
