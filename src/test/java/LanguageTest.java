import com.sun.source.tree.AssertTree;
import com.sun.source.tree.BinaryTree;
import com.sun.source.tree.BlockTree;
import com.sun.source.tree.ClassTree;
import com.sun.source.tree.CompilationUnitTree;
import com.sun.source.tree.CompoundAssignmentTree;
import com.sun.source.tree.DoWhileLoopTree;
import com.sun.source.tree.EnhancedForLoopTree;
import com.sun.source.tree.ExpressionTree;
import com.sun.source.tree.ForLoopTree;
import com.sun.source.tree.ImportTree;
import com.sun.source.tree.LambdaExpressionTree;
import com.sun.source.tree.LiteralTree;
import com.sun.source.tree.MemberReferenceTree;
import com.sun.source.tree.MethodInvocationTree;
import com.sun.source.tree.MethodTree;
import com.sun.source.tree.NewArrayTree;
import com.sun.source.tree.NewClassTree;
import com.sun.source.tree.SynchronizedTree;
import com.sun.source.tree.ThrowTree;
import com.sun.source.tree.Tree;
import com.sun.source.tree.TryTree;
import com.sun.source.tree.TypeCastTree;
import com.sun.source.tree.VariableTree;
import com.sun.source.tree.WhileLoopTree;
import com.sun.source.util.JavacTask;
import com.sun.source.util.TreePath;
import com.sun.source.util.TreePathScanner;
import com.sun.source.util.Trees;
import java.io.File;
import java.io.IOException;
import java.util.HashMap;
import java.util.List;
import java.util.Map;
import java.util.Set;
import java.util.TreeSet;
import javax.lang.model.element.Element;
import javax.lang.model.element.ElementKind;
import javax.lang.model.element.Modifier;
import javax.lang.model.type.ArrayType;
import javax.lang.model.type.TypeKind;
import javax.lang.model.type.TypeMirror;
import javax.tools.JavaCompiler;
import javax.tools.StandardJavaFileManager;
import javax.tools.ToolProvider;

/**
 * What of ../shared/LANGUAGE.md a program can see, along the compiler's tree of the class; run in the project's folder.
 * It is narrower than the rules are: what the class does not need is not let in here.
 */
public final class LanguageTest extends TreePathScanner<Void, Void> {
    private static final String SOURCE = "src/main/java/PoisonBook.java";
    /** Rule 4, but only what the class has a use for. */
    private static final Set<String> LIBRARY = Set.of("String.length", "String.charAt", "Integer.bitCount", "Math.max",
            "Math.min", "System.arraycopy", "Arrays.copyOf", "Object.<init>");
    private static final int DEEPEST = 8;
    private static final int LONGEST = 60;

    private final Checks c = new Checks();
    private final Trees trees;
    private final CompilationUnitTree unit;
    private final String text;
    private final Map<String, Set<String>> calls = new HashMap<>();
    private final Map<String, MethodTree> methods = new HashMap<>();
    private final Set<String> face = new TreeSet<>();
    private int classes = 0;
    private int loops = 0;
    private String method = "";
    private String methodText = "";

    private LanguageTest(Trees trees, CompilationUnitTree unit) throws IOException {
        this.trees = trees;
        this.unit = unit;
        this.text = unit.getSourceFile().getCharContent(true).toString();
    }

    private void must(int rule, boolean holds, String what, Tree where) {
        long line = unit.getLineMap().getLineNumber(trees.getSourcePositions().getStartPosition(unit, where));
        c.holds("rule " + rule + ", line " + line + ": " + what, holds);
    }

    private TypeMirror typeOf(Tree tree) {
        return trees.getTypeMirror(new TreePath(getCurrentPath(), tree));
    }

    private static boolean isOwn(String type) {
        return type.equals("PoisonBook") || type.startsWith("PoisonBook.");
    }

    // ---- classes, fields, types ----

    @Override
    public Void visitImport(ImportTree tree, Void none) {
        must(4, tree.toString().trim().equals("import java.util.Arrays;"), tree.toString().trim(), tree);
        return null;
    }

    @Override
    public Void visitClass(ClassTree tree, Void none) {
        Set<Modifier> flags = tree.getModifiers().getFlags();
        Tree around = getCurrentPath().getParentPath().getLeaf();
        boolean isOuter = around == unit;
        must(2, isOuter || around instanceof ClassTree, "no local or anonymous class", tree);
        must(1, isOuter == flags.contains(Modifier.PUBLIC) && flags.contains(Modifier.FINAL), "public alone is one", tree);
        must(2, isOuter || flags.contains(Modifier.STATIC), "static", tree);
        must(2, tree.getKind() == Tree.Kind.CLASS && tree.getExtendsClause() == null, "a plain class", tree);
        classes++;
        int fields = 0;
        for (Tree member : tree.getMembers()) {
            if (member instanceof VariableTree) {
                VariableTree field = (VariableTree) member;
                fields += field.getModifiers().getFlags().contains(Modifier.STATIC) ? 0 : 1;
                visitField(field, isOuter);
            }
            must(5, !(member instanceof BlockTree), "no initialiser block", member);
        }
        must(11, fields <= 20, "some twenty fields", tree);
        return super.visitClass(tree, none);
    }

    private void visitField(VariableTree field, boolean inOuter) {
        Set<Modifier> flags = field.getModifiers().getFlags();
        boolean isNone = field.getName().contentEquals("NONE");
        must(1, !inOuter || isNone == flags.contains(Modifier.PUBLIC) && isNone != flags.contains(Modifier.PRIVATE),
                field.getName() + " is private", field);
        must(1, !flags.contains(Modifier.PROTECTED), field.getName() + " is not protected", field);
        if (flags.contains(Modifier.STATIC)) {
            boolean isConstant = List.of("int", "long", "boolean", "char", "String").contains(field.getType().toString());
            must(5, flags.contains(Modifier.FINAL) && isConstant && field.getInitializer() != null,
                    field.getName() + " is a constant", field);
        }
    }

    @Override
    public Void visitVariable(VariableTree tree, Void none) {
        must(3, isFine(typeOf(tree.getType())), "the type of " + tree, tree);
        return super.visitVariable(tree, none);
    }

    /** Rule 3, but only of one dimension. */
    private static boolean isFine(TypeMirror type) {
        TypeMirror inner = type.getKind() == TypeKind.ARRAY ? ((ArrayType) type).getComponentType() : type;
        return inner.getKind().isPrimitive() && inner.getKind() != TypeKind.DOUBLE && inner.getKind() != TypeKind.FLOAT
                || isOwn(inner.toString()) || type.toString().equals("java.lang.String");
    }

    // ---- methods, and who calls whom ----

    private String nameOf(Element element) {
        return element.getEnclosingElement() + "." + element.getSimpleName();
    }

    @Override
    public Void visitMethod(MethodTree tree, Void none) {
        Element element = trees.getElement(getCurrentPath());
        method = nameOf(element);
        must(1, methods.put(method, tree) == null, method + " is there once", tree);
        calls.put(method, new TreeSet<>());
        Set<Modifier> flags = tree.getModifiers().getFlags();
        boolean inOuter = element.getEnclosingElement().toString().equals("PoisonBook");
        must(1, flags.contains(Modifier.PUBLIC) == (inOuter && !flags.contains(Modifier.PRIVATE)), method + ": seen", tree);
        must(1, !flags.contains(Modifier.PROTECTED), method + " is not protected", tree);
        must(6, tree.getThrows().isEmpty(), method + " throws nothing", tree);
        must(11, tree.getParameters().size() <= 7, method + " takes seven at most", tree);
        if (flags.contains(Modifier.PUBLIC)) {
            face.add(tree.getName().toString());
        }
        long from = trees.getSourcePositions().getStartPosition(unit, tree);
        long to = trees.getSourcePositions().getEndPosition(unit, tree);
        methodText = from >= 0 && to > from ? text.substring((int) from, (int) to) : "";
        must(11, methodText.lines().count() <= LONGEST, method + " is short", tree);
        return super.visitMethod(tree, none);
    }

    private void called(Tree tree, Element element) {
        String owner = element.getEnclosingElement().toString();
        if (isOwn(owner)) {
            calls.computeIfAbsent(method, key -> new TreeSet<>()).add(nameOf(element));
        } else {
            String name = owner.substring(owner.lastIndexOf('.') + 1) + "." + element.getSimpleName();
            must(4, LIBRARY.contains(name), name, tree);
        }
    }

    @Override
    public Void visitMethodInvocation(MethodInvocationTree tree, Void none) {
        called(tree, trees.getElement(new TreePath(getCurrentPath(), tree.getMethodSelect())));
        return super.visitMethodInvocation(tree, none);
    }

    @Override
    public Void visitNewClass(NewClassTree tree, Void none) {
        must(12, loops == 0, "an object in a loop", tree);
        must(2, tree.getClassBody() == null, "no anonymous class", tree);
        called(tree, trees.getElement(getCurrentPath()));
        return super.visitNewClass(tree, none);
    }

    @Override
    public Void visitNewArray(NewArrayTree tree, Void none) {
        must(12, loops == 0, "an array in a loop", tree);
        must(3, tree.getDimensions().size() == 1 && tree.getInitializers() == null, "of one dimension", tree);
        for (ExpressionTree length : tree.getDimensions()) {
            must(7, isConstant(length), "a length that is known", tree);
        }
        return super.visitNewArray(tree, none);
    }

    /** A constant, or reckoned from constants alone. */
    private boolean isConstant(ExpressionTree tree) {
        if (tree instanceof BinaryTree) {
            return isConstant(((BinaryTree) tree).getLeftOperand()) && isConstant(((BinaryTree) tree).getRightOperand());
        }
        Element element = trees.getElement(new TreePath(getCurrentPath(), tree));
        return tree instanceof LiteralTree || element != null && element.getKind() == ElementKind.FIELD
                && element.getModifiers().contains(Modifier.STATIC);
    }

    // ---- what stands in methods ----

    private void isBounded(ExpressionTree condition, Tree loop) {
        must(9, condition != null && condition.toString().matches("(?s).*(<=?|>=?) .*"), "a bound in its own lines", loop);
    }

    @Override
    public Void visitForLoop(ForLoopTree tree, Void none) {
        isBounded(tree.getCondition(), tree);
        loops++;
        super.visitForLoop(tree, none);
        loops--;
        return null;
    }

    @Override
    public Void visitWhileLoop(WhileLoopTree tree, Void none) {
        isBounded(tree.getCondition(), tree);
        loops++;
        super.visitWhileLoop(tree, none);
        loops--;
        return null;
    }

    @Override
    public Void visitDoWhileLoop(DoWhileLoopTree tree, Void none) {
        must(9, false, "do", tree);
        return null;
    }

    @Override
    public Void visitEnhancedForLoop(EnhancedForLoopTree tree, Void none) {
        must(9, false, "for over", tree);
        return null;
    }

    @Override
    public Void visitBinary(BinaryTree tree, Void none) {
        boolean isText = typeOf(tree.getLeftOperand()).toString().equals("java.lang.String")
                || typeOf(tree.getRightOperand()).toString().equals("java.lang.String");
        must(10, !isText, "no texts joined or compared", tree);
        if (tree.getKind() == Tree.Kind.DIVIDE || tree.getKind() == Tree.Kind.REMAINDER) {
            must(7, isTested(tree.getRightOperand()), "a divisor that was looked at: " + tree, tree);
        }
        return super.visitBinary(tree, none);
    }

    /** A constant, or a name that its method holds against 0. */
    private boolean isTested(ExpressionTree divisor) {
        String name = divisor.toString();
        return isConstant(divisor) || name.startsWith("Math.max(1, ")
                || List.of(" > 0", " <= 0", " == 0").stream().anyMatch(test -> methodText.contains(name + test));
    }

    @Override
    public Void visitCompoundAssignment(CompoundAssignmentTree tree, Void none) {
        must(7, tree.getKind() != Tree.Kind.DIVIDE_ASSIGNMENT && tree.getKind() != Tree.Kind.REMAINDER_ASSIGNMENT,
                "no divisor here", tree);
        return super.visitCompoundAssignment(tree, none);
    }

    @Override
    public Void visitTypeCast(TypeCastTree tree, Void none) {
        must(6, typeOf(tree.getType()).getKind().isPrimitive(), "casts of numbers alone", tree);
        return super.visitTypeCast(tree, none);
    }

    @Override
    public Void visitThrow(ThrowTree tree, Void none) {
        must(6, false, "throw", tree);
        return null;
    }

    @Override
    public Void visitTry(TryTree tree, Void none) {
        must(6, false, "try", tree);
        return null;
    }

    @Override
    public Void visitAssert(AssertTree tree, Void none) {
        must(6, false, "assert", tree);
        return null;
    }

    @Override
    public Void visitSynchronized(SynchronizedTree tree, Void none) {
        must(6, false, "synchronized", tree);
        return null;
    }

    @Override
    public Void visitLambdaExpression(LambdaExpressionTree tree, Void none) {
        must(2, false, "lambda", tree);
        return null;
    }

    @Override
    public Void visitMemberReference(MemberReferenceTree tree, Void none) {
        must(2, false, "method reference", tree);
        return null;
    }

    // ---- when all has been seen ----

    private void names() {
        for (Map.Entry<String, MethodTree> one : methods.entrySet()) {
            boolean isPublic = one.getValue().getModifiers().getFlags().contains(Modifier.PUBLIC);
            String name = one.getValue().getName().toString();
            must(1, isPublic || name.equals("<init>") || !face.contains(name), one.getKey() + ": a name of its own",
                    one.getValue());
        }
        c.holds("rule 11: some twelve classes", classes <= 12);
    }

    /** How many calls stand open at once from here on, each method once. */
    private int depthOf(String name, Set<String> open) {
        if (!open.add(name)) {
            return 0;
        }
        int deepest = 0;
        for (String next : calls.getOrDefault(name, Set.of())) {
            deepest = Math.max(deepest, depthOf(next, open));
        }
        open.remove(name);
        return deepest + 1;
    }

    private boolean reaches(String from, String to, Set<String> seen) {
        for (String next : calls.getOrDefault(from, Set.of())) {
            if (next.equals(to) || seen.add(next) && reaches(next, to, seen)) {
                return true;
            }
        }
        return false;
    }

    private void depths() {
        for (Map.Entry<String, MethodTree> one : methods.entrySet()) {
            String name = one.getKey();
            MethodTree tree = one.getValue();
            int depth = depthOf(name, new TreeSet<>());
            must(11, depth <= DEEPEST, name + " goes " + depth + " deep", tree);
            if (reaches(name, name, new TreeSet<>())) {
                must(8, tree.getModifiers().getFlags().contains(Modifier.PRIVATE), name + " is private", tree);
                must(8, tree.getParameters().toString().contains("int depth"), name + " carries its depth", tree);
            }
        }
    }

    public static void main(String[] args) throws IOException {
        JavaCompiler compiler = ToolProvider.getSystemJavaCompiler();
        StandardJavaFileManager files = compiler.getStandardFileManager(null, null, null);
        JavacTask task = (JavacTask) compiler.getTask(null, files, null, List.of("-proc:none"), null,
                files.getJavaFileObjects(new File(SOURCE)));
        CompilationUnitTree unit = task.parse().iterator().next();
        task.analyze();
        LanguageTest t = new LanguageTest(Trees.instance(task), unit);
        t.c.holds("plain signs", t.text.chars().allMatch(one -> one == '\n' || one >= 32 && one < 127));
        t.c.holds("no package line", unit.getPackage() == null);
        t.scan(unit, null);
        t.names();
        t.depths();
        t.c.holds("all methods were seen", t.methods.size() > 100);
        t.c.close("LanguageTest");
    }
}
