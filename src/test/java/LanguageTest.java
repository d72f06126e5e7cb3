import com.sun.source.tree.AssertTree;
import com.sun.source.tree.BinaryTree;
import com.sun.source.tree.BlockTree;
import com.sun.source.tree.ClassTree;
import com.sun.source.tree.CompilationUnitTree;
import com.sun.source.tree.DoWhileLoopTree;
import com.sun.source.tree.EnhancedForLoopTree;
import com.sun.source.tree.ForLoopTree;
import com.sun.source.tree.ImportTree;
import com.sun.source.tree.LambdaExpressionTree;
import com.sun.source.tree.LiteralTree;
import com.sun.source.tree.MemberReferenceTree;
import com.sun.source.tree.MethodInvocationTree;
import com.sun.source.tree.MethodTree;
import com.sun.source.tree.NewArrayTree;
import com.sun.source.tree.NewClassTree;
import com.sun.source.tree.SynchronizedTree;
import com.sun.source.tree.ThrowTree;
import com.sun.source.tree.Tree;
import com.sun.source.tree.TryTree;
import com.sun.source.tree.TypeCastTree;
import com.sun.source.tree.VariableTree;
import com.sun.source.tree.WhileLoopTree;
import com.sun.source.util.JavacTask;
import com.sun.source.util.TreePath;
import com.sun.source.util.TreePathScanner;
import com.sun.source.util.Trees;
import java.io.IOException;
import java.nio.file.Files;
import java.nio.file.Path;
import java.util.List;
import java.util.Map;
import java.util.Set;
import java.util.TreeMap;
import java.util.TreeSet;
import javax.lang.model.element.Element;
import javax.lang.model.element.Modifier;
import javax.lang.model.type.TypeMirror;
import javax.tools.JavaCompiler;
import javax.tools.StandardJavaFileManager;
import javax.tools.ToolProvider;

/**
 * The rules of LANGUAGE.md that can be seen in the source. Where the class does with less than a rule leaves (no
 * recursion, no while, no text, nothing made by a call), the test asks for that: it is easier to see.
 */
public final class LanguageTest extends TreePathScanner<Void, Void> {
    private static final Set<String> IMPORTS = Set.of("java.util.Arrays", "java.util.ArrayList", "java.util.List");
    private static final Set<String> LIBRARY = Set.of("java.lang.Math.max", "java.lang.Math.min", "java.lang.Math.abs",
        "java.lang.Integer.bitCount", "java.lang.System.arraycopy", "java.util.Arrays.fill");
    private static final Set<String> NUMBERS = Set.of("int", "long", "short", "byte", "char", "boolean");
    private static final Set<String> STATIC = Set.of("int", "long", "boolean", "char", "java.lang.String");
    private static final int MOST_PARAMETERS = 7, MOST_LINES = 60, MOST_CALLS_DEEP = 8, MOST_CLASSES = 12, MOST_FIELDS = 20;

    private final Trees trees;
    private final CompilationUnitTree unit;
    private final Map<String, Set<String>> calls = new TreeMap<>();
    private int classes;

    private LanguageTest(Trees trees, CompilationUnitTree unit) {
        this.trees = trees;
        this.unit = unit;
    }

    /** The source is that of the directory in which the test is run, or one that is named. */
    public static void main(String[] args) throws IOException {
        Path source = Path.of(args.length > 0 ? args[0] : "src/main/java/WaterConsent.java");
        JavaCompiler compiler = ToolProvider.getSystemJavaCompiler();
        StandardJavaFileManager files = compiler.getStandardFileManager(null, null, null);
        JavacTask task = (JavacTask) compiler.getTask(null, files, null, List.of("--release", "17", "-proc:none"), null,
            files.getJavaFileObjects(source.toFile()));
        CompilationUnitTree unit = task.parse().iterator().next();
        task.analyze();
        LanguageTest test = new LanguageTest(Trees.instance(task), unit);
        test.file(Files.readString(source));
        test.scan(unit, null);
        rule(11, "classes, 12 at most", test.classes <= MOST_CLASSES);
        test.callsDeep();
        Check.end();
    }

    private static void rule(int number, String what, boolean isKept) {
        Check.name("rule " + number);
        Check.due(what, isKept ? 1 : 0, 1);
    }

    private String at(Tree tree) {
        long place = trees.getSourcePositions().getStartPosition(unit, tree);
        return " in line " + unit.getLineMap().getLineNumber(place);
    }

    // ---- the file

    private void file(String text) {
        rule(1, "no package", unit.getPackageName() == null);
        rule(1, "one class", unit.getTypeDecls().size() == 1);
        for (ImportTree wanted : unit.getImports()) {
            rule(4, "import" + at(wanted), !wanted.isStatic() && IMPORTS.contains(wanted.getQualifiedIdentifier().toString()));
        }
        rule(4, "signs from 1 to 127", text.chars().allMatch(sign -> sign >= 1 && sign <= 127));
        headings(text);
    }

    /** What the interface says ahead of the calls, and the calls behind it. */
    private static void headings(String text) {
        String[] told = {"// ---- 1 the canal", "canal", "ofReach", "fill", "rain", "// ---- 2 acts", "gates", "open",
            "nights", "acts", "// ---- 3 boats, levels", "boat", "raise", "// ---- 4 who gave consent", "reading", "back",
            "limits", "kinds", "levels", "odds", "// ---- 5 sheets, parts", "sheet", "lose", "put", "cell", "copy", "tell",
            "flatter", "as", "trace", "fault", "many"};
        int from = 0;
        for (String next : told) {
            String line = next.startsWith("//") ? "    " + next + "\n" : " " + next + "(";
            int place = next.startsWith("//") ? text.indexOf(line, from) : publicMethod(text, next, from);
            Check.name("the public face");
            Check.due("behind the one ahead: " + next, place >= from ? 1 : 0, 1);
            from = Math.max(from, place);
        }
    }

    private static int publicMethod(String text, String name, int from) {
        int ofInt = text.indexOf("    public int " + name + "(", from);
        return ofInt >= 0 ? ofInt : text.indexOf("    public long " + name + "(", from);
    }

    // ---- classes, fields, methods

    @Override
    public Void visitClass(ClassTree tree, Void none) {
        classes++;
        boolean isInside = getCurrentPath().getParentPath().getLeaf() instanceof ClassTree;
        boolean isOutermost = getCurrentPath().getParentPath().getLeaf() instanceof CompilationUnitTree;
        Set<Modifier> modifiers = tree.getModifiers().getFlags();
        rule(2, "no local class" + at(tree), isInside || isOutermost);
        rule(2, "static" + at(tree), isOutermost || modifiers.contains(Modifier.STATIC));
        rule(1, "not open" + at(tree), isOutermost || !modifiers.contains(Modifier.PUBLIC) && !modifiers.contains(Modifier.PROTECTED));
        int fields = 0;
        for (Tree member : tree.getMembers()) {
            rule(5, "no block" + at(member), !(member instanceof BlockTree));
            if (member instanceof VariableTree) {
                boolean isStatic = ((VariableTree) member).getModifiers().getFlags().contains(Modifier.STATIC);
                fields += isStatic ? 0 : 1;
                rule(5, "a constant" + at(member), !isStatic || isConstant((VariableTree) member));
            }
        }
        rule(11, "fields" + at(tree), fields <= MOST_FIELDS);
        return super.visitClass(tree, none);
    }

    private boolean isConstant(VariableTree field) {
        TypeMirror type = trees.getTypeMirror(new TreePath(getCurrentPath(), field));
        boolean isFinal = field.getModifiers().getFlags().contains(Modifier.FINAL);
        return isFinal && STATIC.contains(type.toString()) && field.getInitializer() != null;
    }

    @Override
    public Void visitVariable(VariableTree tree, Void none) {
        String type = trees.getTypeMirror(getCurrentPath()).toString();
        String element = type.endsWith("[]") ? type.substring(0, type.length() - 2) : type;
        rule(3, "type " + type + at(tree), NUMBERS.contains(element) || isOwn(element));
        return super.visitVariable(tree, none);
    }

    private static boolean isOwn(String name) {
        return name.equals("WaterConsent") || name.startsWith("WaterConsent.");
    }

    @Override
    public Void visitMethod(MethodTree tree, Void none) {
        String name = tree.getName().toString();
        rule(11, "parameters of " + name, tree.getParameters().size() <= MOST_PARAMETERS);
        long first = unit.getLineMap().getLineNumber(trees.getSourcePositions().getStartPosition(unit, tree));
        long last = unit.getLineMap().getLineNumber(trees.getSourcePositions().getEndPosition(unit, tree));
        rule(11, "lines of " + name, last - first < MOST_LINES);
        rule(6, "name " + name, !Set.of("equals", "hashCode", "toString", "finalize").contains(name));
        boolean isPublic = tree.getModifiers().getFlags().contains(Modifier.PUBLIC);
        rule(1, "no name of a public one: " + name, isPublic || name.equals("<init>") || !isPublicName(name));
        calls.putIfAbsent(called(trees.getElement(getCurrentPath())), new TreeSet<>());
        return super.visitMethod(tree, none);
    }

    private static boolean isPublicName(String name) {
        for (java.lang.reflect.Method m : WaterConsent.class.getMethods()) {
            if (m.getDeclaringClass() == WaterConsent.class && m.getName().equals(name)) {
                return true;
            }
        }
        return false;
    }

    private static String called(Element method) {
        return method.getEnclosingElement() + "." + method.getSimpleName();
    }

    // ---- calls

    /** The method or constructor in which the walk is; null: a field. */
    private TreePath method() {
        TreePath path = getCurrentPath();
        while (path != null && !(path.getLeaf() instanceof MethodTree) && !(path.getLeaf() instanceof ClassTree)) {
            path = path.getParentPath();
        }
        return path != null && path.getLeaf() instanceof MethodTree ? path : null;
    }

    @Override
    public Void visitMethodInvocation(MethodInvocationTree tree, Void none) {
        Element called = trees.getElement(getCurrentPath());
        if (isOwn(called.getEnclosingElement().toString())) {
            TreePath from = method();
            if (from != null) {
                calls.computeIfAbsent(called(trees.getElement(from)), name -> new TreeSet<>()).add(called(called));
            }
        } else if (!called.getSimpleName().contentEquals("<init>")) {
            rule(4, "library: " + called(called) + at(tree), LIBRARY.contains(called(called)));
        }
        return super.visitMethodInvocation(tree, none);
    }

    /** No recursion, and each call at most so deep. */
    private void callsDeep() {
        for (String name : calls.keySet()) {
            int deep = deep(name, 0);
            rule(8, "no recursion from " + name, deep <= calls.size());
            rule(11, "calls at most eight deep from " + name, deep <= MOST_CALLS_DEEP);
        }
    }

    private int deep(String name, int ahead) {
        int deepest = 1;
        for (String next : calls.getOrDefault(name, Set.of())) {
            deepest = Math.max(deepest, ahead > calls.size() ? calls.size() + 1 : 1 + deep(next, ahead + 1));
        }
        return deepest;
    }

    @Override
    public Void visitNewClass(NewClassTree tree, Void none) {
        rule(2, "no class without a name" + at(tree), tree.getClassBody() == null);
        madeByAConstructorAlone(tree);
        return super.visitNewClass(tree, none);
    }

    @Override
    public Void visitNewArray(NewArrayTree tree, Void none) {
        madeByAConstructorAlone(tree);
        rule(3, "one dimension" + at(tree), tree.getDimensions().size() <= 1);
        return super.visitNewArray(tree, none);
    }

    private void madeByAConstructorAlone(Tree tree) {
        TreePath in = method();
        boolean isConstructor = in == null || ((MethodTree) in.getLeaf()).getName().contentEquals("<init>");
        rule(12, "made by a constructor alone" + at(tree), isConstructor);
    }

    // ---- statements and expressions

    @Override
    public Void visitForLoop(ForLoopTree tree, Void none) {
        rule(9, "an end" + at(tree), tree.getCondition() instanceof BinaryTree);
        return super.visitForLoop(tree, none);
    }

    @Override
    public Void visitEnhancedForLoop(EnhancedForLoopTree tree, Void none) {
        rule(9, "no for over rows" + at(tree), false);
        return super.visitEnhancedForLoop(tree, none);
    }

    @Override
    public Void visitWhileLoop(WhileLoopTree tree, Void none) {
        rule(9, "no while" + at(tree), false);
        return super.visitWhileLoop(tree, none);
    }

    @Override
    public Void visitDoWhileLoop(DoWhileLoopTree tree, Void none) {
        rule(9, "no do" + at(tree), false);
        return super.visitDoWhileLoop(tree, none);
    }

    @Override
    public Void visitLambdaExpression(LambdaExpressionTree tree, Void none) {
        rule(2, "no lambda" + at(tree), false);
        return super.visitLambdaExpression(tree, none);
    }

    @Override
    public Void visitMemberReference(MemberReferenceTree tree, Void none) {
        rule(2, "no method reference" + at(tree), false);
        return super.visitMemberReference(tree, none);
    }

    @Override
    public Void visitThrow(ThrowTree tree, Void none) {
        rule(6, "no throw" + at(tree), false);
        return super.visitThrow(tree, none);
    }

    @Override
    public Void visitTry(TryTree tree, Void none) {
        rule(6, "no try" + at(tree), false);
        return super.visitTry(tree, none);
    }

    @Override
    public Void visitSynchronized(SynchronizedTree tree, Void none) {
        rule(6, "no synchronized" + at(tree), false);
        return super.visitSynchronized(tree, none);
    }

    @Override
    public Void visitAssert(AssertTree tree, Void none) {
        rule(6, "no assert" + at(tree), false);
        return super.visitAssert(tree, none);
    }

    @Override
    public Void visitTypeCast(TypeCastTree tree, Void none) {
        rule(6, "casts of numbers alone" + at(tree), NUMBERS.contains(tree.getType().toString()));
        return super.visitTypeCast(tree, none);
    }

    @Override
    public Void visitLiteral(LiteralTree tree, Void none) {
        rule(10, "no text" + at(tree), tree.getKind() != Tree.Kind.STRING_LITERAL);
        return super.visitLiteral(tree, none);
    }
}
