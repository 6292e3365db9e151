import com.sun.source.tree.AssertTree;
import com.sun.source.tree.BinaryTree;
import com.sun.source.tree.BlockTree;
import com.sun.source.tree.ClassTree;
import com.sun.source.tree.CompilationUnitTree;
import com.sun.source.tree.DoWhileLoopTree;
import com.sun.source.tree.ExpressionTree;
import com.sun.source.tree.ForLoopTree;
import com.sun.source.tree.ImportTree;
import com.sun.source.tree.LambdaExpressionTree;
import com.sun.source.tree.LiteralTree;
import com.sun.source.tree.MemberReferenceTree;
import com.sun.source.tree.MethodInvocationTree;
import com.sun.source.tree.MethodTree;
import com.sun.source.tree.NewArrayTree;
import com.sun.source.tree.NewClassTree;
import com.sun.source.tree.PackageTree;
import com.sun.source.tree.ParenthesizedTree;
import com.sun.source.tree.SynchronizedTree;
import com.sun.source.tree.ThrowTree;
import com.sun.source.tree.Tree;
import com.sun.source.tree.TryTree;
import com.sun.source.tree.TypeCastTree;
import com.sun.source.tree.VariableTree;
import com.sun.source.tree.WhileLoopTree;
import com.sun.source.util.JavacTask;
import com.sun.source.util.SourcePositions;
import com.sun.source.util.TreePath;
import com.sun.source.util.TreePathScanner;
import com.sun.source.util.Trees;
import java.io.IOException;
import java.nio.charset.StandardCharsets;
import java.nio.file.Files;
import java.nio.file.Path;
import java.util.Arrays;
import java.util.HashMap;
import java.util.HashSet;
import java.util.List;
import java.util.Map;
import java.util.Set;
import java.util.TreeSet;
import javax.lang.model.element.Element;
import javax.lang.model.element.ElementKind;
import javax.lang.model.element.Modifier;
import javax.lang.model.type.ArrayType;
import javax.lang.model.type.TypeMirror;
import javax.tools.JavaCompiler;
import javax.tools.StandardJavaFileManager;
import javax.tools.ToolProvider;

/**
 * Reads FerroDesk.java as javac does, and holds it against LANGUAGE.md, rule by rule, as far as
 * reading tells; the face of rule 1 is FaceTest's, what calls make (12) is RoomTest's, and that no
 * call throws by itself (7) is MachineTest's. It is narrower than the rules where the class needs
 * no more: no try, no cast of an object, no recursion.
 */
public final class LanguageTest extends TreePathScanner<Void, Void> {
    private static final String SOURCE = "src/main/java/FerroDesk.java";
    private static final Set<String> LIBRARY = Set.of("java.lang.Math.min", "java.lang.Math.max",
            "java.lang.Integer.bitCount");
    private static final Set<String> EXCEPTIONS = Set.of("IllegalStateException",
            "IllegalArgumentException", "IndexOutOfBoundsException", "ArithmeticException",
            "UnsupportedOperationException", "NoSuchElementException", "RuntimeException");
    private static final Set<String> OF_CONSTANTS = Set.of("int", "long", "boolean", "char",
            "java.lang.String", "int[]", "long[]", "char[]", "byte[]");
    private static final int MOST_PARAMETERS = 7;
    private static final int MOST_LINES = 60;
    private static final int MOST_CLASSES = 12;
    private static final int MOST_FIELDS = 20;
    private static final int DEEPEST_CALL = 8;

    private final Trees trees;
    private final CompilationUnitTree unit;
    /** Each method with those of the class that it calls. */
    private final Map<String, Set<String>> calls = new HashMap<>();
    private String method = "";
    private boolean inConstructor = false;
    private int classes = 0;

    private LanguageTest(JavacTask task, CompilationUnitTree unit) {
        this.trees = Trees.instance(task);
        this.unit = unit;
    }

    public static void main(String[] args) throws IOException {
        JavaCompiler javac = ToolProvider.getSystemJavaCompiler();
        try (StandardJavaFileManager files = javac.getStandardFileManager(null, null, null)) {
            JavacTask task = (JavacTask) javac.getTask(null, files, null,
                    List.of("--release", "17", "-proc:none"), null,
                    files.getJavaFileObjects(Path.of(SOURCE)));
            CompilationUnitTree unit = task.parse().iterator().next();
            task.analyze();
            LanguageTest reader = new LanguageTest(task, unit);
            reader.scan(unit, null);
            reader.checkWhole();
        }
        String source = Files.readString(Path.of(SOURCE), StandardCharsets.ISO_8859_1);
        Check.same("3: signs of 7 bits alone", source.chars().allMatch(sign -> sign < 127), true);
        Check.finish("LanguageTest");
    }

    private void checkWhole() {
        Check.same("1: one class in the file", unit.getTypeDecls().size(), 1);
        Check.same("11: classes", classes <= MOST_CLASSES, true);
        int deepest = 0;
        for (String name : new TreeSet<>(calls.keySet())) {
            deepest = Math.max(deepest, depthOf(name, new HashSet<>()));
        }
        Check.same("11: calls at most eight deep, not " + deepest, deepest <= DEEPEST_CALL, true);
        Check.same("11: the methods were read", deepest > 2, true);
    }

    private int depthOf(String name, Set<String> open) {
        boolean again = !open.add(name);
        Check.same("8: " + name + " calls itself", again, false);
        int below = 0;
        if (!again) {
            for (String called : calls.getOrDefault(name, Set.of())) {
                below = Math.max(below, depthOf(called, open));
            }
            open.remove(name);
        }
        return 1 + below;
    }

    /** A finding: what a rule rules out stands in the file. */
    private void ruledOut(String rule, Tree tree) {
        Check.same(rule + ", in line " + lineOf(tree), tree.toString(), "nothing of that kind");
    }

    private long lineOf(Tree tree) {
        SourcePositions positions = trees.getSourcePositions();
        return unit.getLineMap().getLineNumber(positions.getStartPosition(unit, tree));
    }

    private long lastLineOf(Tree tree) {
        SourcePositions positions = trees.getSourcePositions();
        return unit.getLineMap().getLineNumber(positions.getEndPosition(unit, tree));
    }

    private TypeMirror typeOf(Tree tree) {
        return trees.getTypeMirror(TreePath.getPath(unit, tree));
    }

    private Element elementOf(Tree tree) {
        return trees.getElement(TreePath.getPath(unit, tree));
    }

    private static boolean isOwn(String type) {
        return type.equals("FerroDesk") || type.startsWith("FerroDesk.");
    }

    @Override
    public Void visitPackage(PackageTree tree, Void nothing) {
        ruledOut("1: without a package line", tree);
        return null;
    }

    @Override
    public Void visitImport(ImportTree tree, Void nothing) {
        ruledOut("4: no import is needed for what the class uses", tree);
        return null;
    }

    @Override
    public Void visitClass(ClassTree tree, Void nothing) {
        classes++;
        int fields = 0;
        for (Tree member : tree.getMembers()) {
            boolean isField = member instanceof VariableTree;
            if (isField && !isStatic((VariableTree) member)) {
                fields++;
            }
            if (member instanceof BlockTree) {
                ruledOut("5: no initialiser block", member);
            }
        }
        Check.same("11: fields of " + tree.getSimpleName(), fields <= MOST_FIELDS, true);
        Check.same("6: " + tree.getSimpleName() + " is below no library class",
                tree.getExtendsClause() == null, true);
        return super.visitClass(tree, nothing);
    }

    private static boolean isStatic(VariableTree tree) {
        return tree.getModifiers().getFlags().contains(Modifier.STATIC);
    }

    @Override
    public Void visitVariable(VariableTree tree, Void nothing) {
        String type = typeOf(tree).toString();
        Check.same("3: the type of " + tree.getName(), isTaken(typeOf(tree)), true);
        if (isStatic(tree)) {
            Check.same("5: final: " + tree.getName(),
                    tree.getModifiers().getFlags().contains(Modifier.FINAL), true);
            Check.same("5: a constant's type: " + tree.getName(), OF_CONSTANTS.contains(type),
                    true);
        }
        return super.visitVariable(tree, nothing);
    }

    private static boolean isTaken(TypeMirror type) {
        if (type instanceof ArrayType) {
            TypeMirror element = ((ArrayType) type).getComponentType();
            return element.getKind().isPrimitive() || isOwn(element.toString());
        }
        return type.getKind().isPrimitive() || isOwn(type.toString());
    }

    @Override
    public Void visitMethod(MethodTree tree, Void nothing) {
        Element element = elementOf(tree);
        method = nameOf(element);
        inConstructor = element.getKind() == ElementKind.CONSTRUCTOR;
        calls.putIfAbsent(method, new TreeSet<>());
        Check.same("11: parameters of " + method, tree.getParameters().size() <= MOST_PARAMETERS,
                true);
        Check.same("11: lines of " + method, lastLineOf(tree) - lineOf(tree) < MOST_LINES, true);
        boolean named = Arrays.asList("equals", "hashCode", "toString")
                .contains(tree.getName().toString());
        Check.same("6: no " + method, named, false);
        super.visitMethod(tree, nothing);
        inConstructor = false;
        return null;
    }

    private static String nameOf(Element method) {
        return method.getEnclosingElement() + "." + method.getSimpleName();
    }

    @Override
    public Void visitMethodInvocation(MethodInvocationTree tree, Void nothing) {
        Element called = elementOf(tree);
        String owner = called.getEnclosingElement().toString();
        boolean isSuper = tree.toString().equals("super()");
        if (isOwn(owner)) {
            calls.computeIfAbsent(method, key -> new TreeSet<>()).add(nameOf(called));
        } else if (!isSuper) {
            Check.same("4: in the library's list: " + nameOf(called),
                    LIBRARY.contains(nameOf(called)), true);
        }
        if (inConstructor && !isSuper) {
            ruledOut("12: a constructor calls nothing", tree);
        }
        return super.visitMethodInvocation(tree, nothing);
    }

    @Override
    public Void visitNewClass(NewClassTree tree, Void nothing) {
        boolean own = isOwn(typeOf(tree).toString());
        boolean thrown = getCurrentPath().getParentPath().getLeaf() instanceof ThrowTree;
        if (own) {
            Check.same("12: made by a constructor or for a field: " + tree,
                    inConstructor || isFieldsValue(), true);
        } else if (!thrown) {
            ruledOut("4: no object of the library", tree);
        }
        if (tree.getClassBody() != null) {
            ruledOut("2: no class without a name is needed", tree);
        }
        return super.visitNewClass(tree, nothing);
    }

    @Override
    public Void visitNewArray(NewArrayTree tree, Void nothing) {
        Check.same("12: made by a constructor or for a field: " + tree,
                inConstructor || isFieldsValue(), true);
        return super.visitNewArray(tree, nothing);
    }

    private boolean isFieldsValue() {
        TreePath parent = getCurrentPath().getParentPath();
        return parent.getLeaf() instanceof VariableTree
                && parent.getParentPath().getLeaf() instanceof ClassTree;
    }

    @Override
    public Void visitThrow(ThrowTree tree, Void nothing) {
        ExpressionTree thrown = tree.getExpression();
        boolean told = false;
        if (thrown instanceof NewClassTree) {
            NewClassTree made = (NewClassTree) thrown;
            told = EXCEPTIONS.contains(made.getIdentifier().toString())
                    && made.getArguments().stream().allMatch(LanguageTest::isText);
        }
        Check.same("6: throw new E(\"a written text\"): " + tree, told, true);
        Check.same("6: no throw in a constructor", inConstructor, false);
        return super.visitThrow(tree, nothing);
    }

    private static boolean isText(ExpressionTree tree) {
        return tree.getKind() == Tree.Kind.STRING_LITERAL;
    }

    @Override
    public Void visitTry(TryTree tree, Void nothing) {
        ruledOut("6: no try is needed", tree);
        return null;
    }

    @Override
    public Void visitSynchronized(SynchronizedTree tree, Void nothing) {
        ruledOut("6: no synchronized", tree);
        return null;
    }

    @Override
    public Void visitAssert(AssertTree tree, Void nothing) {
        ruledOut("6: no assert", tree);
        return null;
    }

    @Override
    public Void visitLambdaExpression(LambdaExpressionTree tree, Void nothing) {
        ruledOut("2: no lambda", tree);
        return null;
    }

    @Override
    public Void visitMemberReference(MemberReferenceTree tree, Void nothing) {
        ruledOut("2: no method reference", tree);
        return null;
    }

    @Override
    public Void visitTypeCast(TypeCastTree tree, Void nothing) {
        Check.same("6: a cast of numbers alone: " + tree,
                typeOf(tree.getType()).getKind().isPrimitive(), true);
        return super.visitTypeCast(tree, nothing);
    }

    @Override
    public Void visitBinary(BinaryTree tree, Void nothing) {
        String type = typeOf(tree).toString();
        Check.same("10: texts are not joined by +: " + tree, type.equals("java.lang.String"),
                false);
        boolean rest = tree.getKind() == Tree.Kind.REMAINDER;
        Check.same("3: no % of doubles and floats: " + tree,
                rest && (type.equals("double") || type.equals("float")), false);
        return super.visitBinary(tree, nothing);
    }

    @Override
    public Void visitForLoop(ForLoopTree tree, Void nothing) {
        Check.same("9: a loop's end is told: " + tree, tree.getCondition() != null
                && tree.getUpdate().size() == 1, true);
        return super.visitForLoop(tree, nothing);
    }

    @Override
    public Void visitWhileLoop(WhileLoopTree tree, Void nothing) {
        checkEnd(tree, tree.getCondition());
        return super.visitWhileLoop(tree, nothing);
    }

    @Override
    public Void visitDoWhileLoop(DoWhileLoopTree tree, Void nothing) {
        checkEnd(tree, tree.getCondition());
        return super.visitDoWhileLoop(tree, nothing);
    }

    private static void checkEnd(Tree loop, ExpressionTree condition) {
        ExpressionTree asked = condition instanceof ParenthesizedTree
                ? ((ParenthesizedTree) condition).getExpression() : condition;
        Check.same("9: a loop's end is told: " + loop, asked instanceof LiteralTree, false);
    }
}
