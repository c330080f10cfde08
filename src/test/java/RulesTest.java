import com.sun.source.tree.BinaryTree;
import com.sun.source.tree.ClassTree;
import com.sun.source.tree.CompilationUnitTree;
import com.sun.source.tree.CompoundAssignmentTree;
import com.sun.source.tree.ExpressionTree;
import com.sun.source.tree.LiteralTree;
import com.sun.source.tree.MethodInvocationTree;
import com.sun.source.tree.MethodTree;
import com.sun.source.tree.NewArrayTree;
import com.sun.source.tree.NewClassTree;
import com.sun.source.tree.Tree;
import com.sun.source.tree.VariableTree;
import com.sun.source.util.JavacTask;
import com.sun.source.util.TreePath;
import com.sun.source.util.TreePathScanner;
import com.sun.source.util.Trees;
import java.util.ArrayList;
import java.util.LinkedHashMap;
import java.util.LinkedHashSet;
import java.util.List;
import java.util.Map;
import java.util.Set;
import javax.lang.model.element.Element;
import javax.lang.model.element.ElementKind;
import javax.lang.model.element.Modifier;
import javax.lang.model.element.VariableElement;
import javax.tools.JavaCompiler;
import javax.tools.StandardJavaFileManager;
import javax.tools.ToolProvider;

/**
 * What javac itself knows of the program, held against LANGUAGE.md: which calls lead to which (rules 4, 8, 11), types (3),
 * static fields (5), divisors and the lengths of new arrays (7), fields and classes (11).
 */
public final class RulesTest extends TreePathScanner<Void, Element> {
    private static final int DEEPEST = 8;
    private static final int MOST_FIELDS = 20;
    private static final int MOST_CLASSES = 12;
    private static final Set<String> LIBRARY = Set.of("java.lang.Object.Object()", "java.lang.Math.abs(int)", "java.lang.Math.max(int,int)",
        "java.lang.Math.min(int,int)", "java.lang.Math.floorMod(int,int)", "java.lang.String.charAt(int)", "java.lang.String.length()",
        "java.lang.System.arraycopy(java.lang.Object,int,java.lang.Object,int,int)", "java.util.Arrays.copyOf(int[],int)",
        "java.util.Arrays.copyOf(long[],int)", "java.util.Arrays.fill(int[],int)");
    private static final Set<String> TYPES = Set.of("int", "long", "short", "byte", "char", "boolean", "double", "float", "java.lang.String",
        "int[]", "long[]", "byte[]", "char[]", "boolean[]");
    private static final Set<String> STATICS = Set.of("int", "long", "boolean", "char", "java.lang.String", "int[]", "long[]", "char[]", "byte[]");

    private final Check check = new Check();
    private final Map<Element, Set<Element>> leadsTo = new LinkedHashMap<>();
    private Trees trees;
    private int classes;

    public static void main(String[] args) throws Exception {
        new RulesTest().look("src/main/java/RhombInflator.java");
    }

    private void look(String file) throws Exception {
        JavaCompiler compiler = ToolProvider.getSystemJavaCompiler();
        try (StandardJavaFileManager files = compiler.getStandardFileManager(null, null, null)) {
            JavacTask task = (JavacTask) compiler.getTask(null, files, null, null, null, files.getJavaFileObjects(file));
            Iterable<? extends CompilationUnitTree> units = task.parse();
            task.analyze();
            trees = Trees.instance(task);
            for (CompilationUnitTree unit : units) {
                scan(unit, null);
            }
        }
        check.holds("rule 11: at most twelve classes, but " + classes, classes <= MOST_CLASSES);
        for (Element method : leadsTo.keySet()) {
            goDeeper(method, new ArrayList<>());
        }
        check.end("RulesTest");
    }

    @Override
    public Void visitClass(ClassTree tree, Element around) {
        classes++;
        int fields = 0;
        for (Tree member : tree.getMembers()) {
            boolean variable = member.getKind() == Tree.Kind.VARIABLE;
            fields += variable && !((VariableTree) member).getModifiers().getFlags().contains(Modifier.STATIC) ? 1 : 0;
            check.holds("rule 5: no initialiser block in " + tree.getSimpleName(), member.getKind() != Tree.Kind.BLOCK);
        }
        check.holds("rule 11: some twenty fields in " + tree.getSimpleName() + ", but " + fields, fields <= MOST_FIELDS);
        return super.visitClass(tree, around);
    }

    @Override
    public Void visitMethod(MethodTree tree, Element around) {
        Element method = trees.getElement(getCurrentPath());
        leadsTo.putIfAbsent(method, new LinkedHashSet<>());
        check.holds("rule 11: at most seven parameters: " + method, tree.getParameters().size() <= 7);
        return super.visitMethod(tree, method);
    }

    @Override
    public Void visitVariable(VariableTree tree, Element around) {
        Element variable = trees.getElement(getCurrentPath());
        String type = variable.asType().toString();
        check.holds("rule 3: the type of " + variable + ": " + type, TYPES.contains(type) || type.startsWith("RhombInflator."));
        if (variable.getModifiers().contains(Modifier.STATIC)) {
            boolean list = type.endsWith("[]");
            check.holds("rule 5: " + variable + " is final", variable.getModifiers().contains(Modifier.FINAL));
            check.holds("rule 5: the type of " + variable, STATICS.contains(type));
            check.holds("rule 5: " + variable + " is written out", list ? tree.getInitializer().getKind() == Tree.Kind.NEW_ARRAY
                : ((VariableElement) variable).getConstantValue() != null);
        }
        return super.visitVariable(tree, around);
    }

    @Override
    public Void visitMethodInvocation(MethodInvocationTree tree, Element around) {
        noteCall(around);
        return super.visitMethodInvocation(tree, around);
    }

    @Override
    public Void visitNewClass(NewClassTree tree, Element around) {
        noteCall(around);
        return super.visitNewClass(tree, around);
    }

    private void noteCall(Element around) {
        Element called = trees.getElement(getCurrentPath());
        String owner = called.getEnclosingElement().toString();
        check.holds("rule 4: " + owner + "." + called, owner.startsWith("RhombInflator") || LIBRARY.contains(owner + "." + called));
        if (around != null) {
            leadsTo.get(around).add(called);
        }
    }

    @Override
    public Void visitNewArray(NewArrayTree tree, Element around) {
        for (ExpressionTree length : tree.getDimensions()) {
            check.holds("rule 7: a length that is sure: " + tree, isConstant(new TreePath(getCurrentPath(), length)));
        }
        return super.visitNewArray(tree, around);
    }

    @Override
    public Void visitBinary(BinaryTree tree, Element around) {
        if (tree.getKind() == Tree.Kind.DIVIDE || tree.getKind() == Tree.Kind.REMAINDER) {
            checkDivisor(tree.getRightOperand());
        }
        return super.visitBinary(tree, around);
    }

    @Override
    public Void visitCompoundAssignment(CompoundAssignmentTree tree, Element around) {
        if (tree.getKind() == Tree.Kind.DIVIDE_ASSIGNMENT || tree.getKind() == Tree.Kind.REMAINDER_ASSIGNMENT) {
            checkDivisor(tree.getExpression());
        }
        return super.visitCompoundAssignment(tree, around);
    }

    private void checkDivisor(ExpressionTree divisor) {
        boolean sure = divisor instanceof LiteralTree && ((Number) ((LiteralTree) divisor).getValue()).longValue() != 0;
        check.holds("rule 7: a divisor that is sure: " + getCurrentPath().getLeaf(), sure);
    }

    /** Numbers and constants alone, or two of these joined. */
    private boolean isConstant(TreePath path) {
        Tree tree = path.getLeaf();
        if (tree instanceof BinaryTree) {
            BinaryTree both = (BinaryTree) tree;
            return isConstant(new TreePath(path, both.getLeftOperand())) && isConstant(new TreePath(path, both.getRightOperand()));
        }
        if (tree instanceof LiteralTree) {
            return true;
        }
        Element named = trees.getElement(path);
        return named != null && named.getKind() == ElementKind.FIELD && ((VariableElement) named).getConstantValue() != null;
    }

    /** Follows all that a method leads to, the face's own call counted; the program has no recursion at all. */
    private void goDeeper(Element method, List<Element> path) {
        check.holds("rule 8: no recursion: " + path + " and " + method + " again", !path.contains(method));
        if (path.contains(method)) {
            return;
        }
        path.add(method);
        check.holds("rule 11: at most eight deep: " + path, path.size() <= DEEPEST);
        for (Element called : leadsTo.getOrDefault(method, Set.of())) {
            goDeeper(called, path);
        }
        path.remove(path.size() - 1);
    }
}
