import com.sun.source.tree.AssertTree;
import com.sun.source.tree.BinaryTree;
import com.sun.source.tree.ClassTree;
import com.sun.source.tree.CompilationUnitTree;
import com.sun.source.tree.CompoundAssignmentTree;
import com.sun.source.tree.DoWhileLoopTree;
import com.sun.source.tree.EnhancedForLoopTree;
import com.sun.source.tree.ExpressionTree;
import com.sun.source.tree.ForLoopTree;
import com.sun.source.tree.ImportTree;
import com.sun.source.tree.InstanceOfTree;
import com.sun.source.tree.LambdaExpressionTree;
import com.sun.source.tree.MemberReferenceTree;
import com.sun.source.tree.MethodInvocationTree;
import com.sun.source.tree.MethodTree;
import com.sun.source.tree.NewArrayTree;
import com.sun.source.tree.NewClassTree;
import com.sun.source.tree.PackageTree;
import com.sun.source.tree.SynchronizedTree;
import com.sun.source.tree.ThrowTree;
import com.sun.source.tree.Tree;
import com.sun.source.tree.TryTree;
import com.sun.source.tree.TypeCastTree;
import com.sun.source.tree.VariableTree;
import com.sun.source.tree.WhileLoopTree;
import com.sun.source.util.JavacTask;
import com.sun.source.util.TreePath;
import com.sun.source.util.TreePathScanner;
import com.sun.source.util.Trees;
import java.io.IOException;
import java.nio.file.Files;
import java.nio.file.Path;
import java.util.HashMap;
import java.util.List;
import java.util.Map;
import java.util.Set;
import java.util.TreeMap;
import java.util.TreeSet;
import javax.lang.model.element.Element;
import javax.lang.model.element.ElementKind;
import javax.lang.model.element.Modifier;
import javax.lang.model.element.TypeElement;
import javax.lang.model.type.ArrayType;
import javax.lang.model.type.DeclaredType;
import javax.lang.model.type.TypeKind;
import javax.lang.model.type.TypeMirror;
import javax.tools.JavaCompiler;
import javax.tools.StandardJavaFileManager;
import javax.tools.ToolProvider;

/** The rules of LANGUAGE.md, as far as the compiler's tree of the file can tell them. Where the file needs less than
 * a rule leaves (no while, no list, no text, nothing made by a call), the test asks for that less, as it is simpler to
 * see; whoever needs more loosens it here. What a face's member is: FaceTest. */
public final class LanguageTest extends TreePathScanner<Void, Void> {
    private static final Path FILE = Path.of("src/main/java/NeededAnswers.java");
    private static final Set<String> LIBRARY = Set.of("System.arraycopy", "Integer.bitCount", "Math.min", "Math.max");
    private static final int MOST_PARAMETERS = 7, MOST_LINES = 60, MOST_DEEP = 8, MOST_CLASSES = 12, MOST_FIELDS = 20;
    private static final Check check = new Check("LanguageTest");

    private final Trees trees;
    private final CompilationUnitTree unit;
    private final Map<Element, Set<Element>> calls = new HashMap<>();
    private final Map<String, Integer> fields = new TreeMap<>();
    private final Set<String> faceNames = new TreeSet<>();
    private final Set<Element> faceMembers = new java.util.LinkedHashSet<>();
    private int classes;

    private LanguageTest(Trees trees, CompilationUnitTree unit) {
        this.trees = trees;
        this.unit = unit;
    }

    public static void main(String[] args) throws IOException {
        JavaCompiler compiler = ToolProvider.getSystemJavaCompiler();
        try (StandardJavaFileManager manager = compiler.getStandardFileManager(null, null, null)) {
            JavacTask task = (JavacTask) compiler.getTask(null, manager, null, List.of("--release", "17", "-proc:none"),
                null, manager.getJavaFileObjects(FILE));
            CompilationUnitTree unit = task.parse().iterator().next();
            task.analyze();
            new LanguageTest(Trees.instance(task), unit).all();
        }
        check.is("signs beyond 127", Files.readString(FILE).chars().filter(c -> c > 127).count(), 0);
        check.end();
    }

    private void all() {
        check.is("types in the file", unit.getTypeDecls().size(), 1);
        for (Tree member : ((ClassTree) unit.getTypeDecls().get(0)).getMembers()) {
            Element element = trees.getElement(new TreePath(new TreePath(new TreePath(unit), unit.getTypeDecls().get(0)), member));
            boolean isPublic = element != null && element.getModifiers().contains(Modifier.PUBLIC);
            if (isPublic && member instanceof MethodTree method) {
                faceMembers.add(element);
                if (method.getReturnType() != null) faceNames.add(method.getName().toString());
            }
        }
        check.is("calls of the face", faceNames.size(), 29);
        scan(unit, null);
        check.is("classes " + classes, classes <= MOST_CLASSES ? 1 : 0, 1);
        for (String one : fields.keySet()) {
            check.is("fields of " + one, fields.get(one) <= MOST_FIELDS ? 1 : 0, 1);
        }
        for (Element member : faceMembers) {
            int deep = depth(member, new java.util.ArrayList<>());
            check.is(member + " goes " + deep + " deep", deep <= MOST_DEEP ? 1 : 0, 1);
        }
    }

    /** How many calls stand open at once, this one with them; a call that comes back to itself is told as too deep. */
    private int depth(Element method, List<Element> open) {
        if (open.contains(method)) return 1000;
        open.add(method);
        int most = 0;
        for (Element called : calls.getOrDefault(method, Set.of())) most = Math.max(most, depth(called, open));
        open.remove(open.size() - 1);
        return most + 1;
    }

    private String at(Tree tree) {
        long line = unit.getLineMap().getLineNumber(trees.getSourcePositions().getStartPosition(unit, tree));
        return "line " + line + ": ";
    }

    private void never(Tree tree, String what) {
        check.is(at(tree) + what, 1, 0);
    }

    private void must(Tree tree, String what, boolean is) {
        check.is(at(tree) + what, is ? 1 : 0, 1);
    }

    private MethodTree methodAround() {
        for (TreePath path = getCurrentPath(); path != null; path = path.getParentPath()) {
            if (path.getLeaf() instanceof MethodTree method) return method;
        }
        return null;
    }

    private static boolean isOwn(Element element) {
        Element outer = element;
        while (outer != null && outer.getEnclosingElement() != null
            && outer.getEnclosingElement().getKind() != ElementKind.PACKAGE) {
            outer = outer.getEnclosingElement();
        }
        return outer != null && outer.getSimpleName().contentEquals("NeededAnswers");
    }

    /** Numbers, own classes, String, and rows of numbers or own classes. */
    private static boolean isTypeOfTheRules(TypeMirror type) {
        if (type.getKind() == TypeKind.VOID) return true;
        if (type.getKind() == TypeKind.DOUBLE || type.getKind() == TypeKind.FLOAT) return false;
        if (type.getKind().isPrimitive()) return true;
        if (type instanceof ArrayType row) {
            return row.getComponentType().getKind() != TypeKind.ARRAY && isTypeOfTheRules(row.getComponentType())
                && !isString(row.getComponentType());
        }
        return type instanceof DeclaredType declared && (isOwn(declared.asElement()) || isString(type));
    }

    private static boolean isString(TypeMirror type) {
        return type.toString().equals("java.lang.String");
    }

    // ---- rules 1, 2, 5, 11: classes, their fields and methods

    @Override public Void visitPackage(PackageTree tree, Void none) {
        never(tree, "a package line");
        return null;
    }

    @Override public Void visitImport(ImportTree tree, Void none) {
        never(tree, "an import");
        return null;
    }

    @Override public Void visitClass(ClassTree tree, Void none) {
        classes++;
        Tree around = getCurrentPath().getParentPath().getLeaf();
        Set<Modifier> signs = tree.getModifiers().getFlags();
        if (around instanceof ClassTree) {
            must(tree, tree.getSimpleName() + " is static", signs.contains(Modifier.STATIC));
            must(tree, tree.getSimpleName() + " is not public", !signs.contains(Modifier.PUBLIC)
                && !signs.contains(Modifier.PROTECTED));
        } else {
            must(tree, "no local and no anonymous class", around instanceof CompilationUnitTree);
        }
        must(tree, "nothing is extended or implemented", tree.getExtendsClause() == null && tree.getImplementsClause().isEmpty());
        for (Tree member : tree.getMembers()) {
            must(member, "no initialiser block", member.getKind() != Tree.Kind.BLOCK);
        }
        return super.visitClass(tree, none);
    }

    @Override public Void visitMethod(MethodTree tree, Void none) {
        String name = tree.getName().toString();
        Element element = trees.getElement(getCurrentPath());
        must(tree, name + " has few parameters", tree.getParameters().size() <= MOST_PARAMETERS);
        long begin = unit.getLineMap().getLineNumber(trees.getSourcePositions().getStartPosition(unit, tree));
        long end = trees.getSourcePositions().getEndPosition(unit, tree);
        if (end >= 0) must(tree, name + " is short", unit.getLineMap().getLineNumber(end) - begin < MOST_LINES);
        if (tree.getReturnType() != null && !faceMembers.contains(element)) {
            must(tree, name + " is no name of the face", !faceNames.contains(name));
            must(tree, name + " is no Object's method", !Set.of("equals", "hashCode", "toString", "finalize").contains(name));
        }
        if (tree.getReturnType() != null) {
            must(tree, name + " answers a type of the rules", isTypeOfTheRules(trees.getTypeMirror(
                new TreePath(getCurrentPath(), tree.getReturnType()))));
        }
        must(tree, name + " names no exceptions", tree.getThrows().isEmpty() && tree.getTypeParameters().isEmpty());
        return super.visitMethod(tree, none);
    }

    @Override public Void visitVariable(VariableTree tree, Void none) {
        Element element = trees.getElement(getCurrentPath());
        must(tree, tree.getName() + " is of a type of the rules", isTypeOfTheRules(element.asType()));
        if (element.getKind() == ElementKind.FIELD) {
            boolean isStatic = element.getModifiers().contains(Modifier.STATIC);
            if (!isStatic) fields.merge(element.getEnclosingElement().toString(), 1, Integer::sum);
            else must(tree, tree.getName() + " is a constant", element.getModifiers().contains(Modifier.FINAL)
                && ((javax.lang.model.element.VariableElement) element).getConstantValue() != null);
        }
        return super.visitVariable(tree, none);
    }

    // ---- rules 4, 8, 11, 12: what is called, what is made

    @Override public Void visitMethodInvocation(MethodInvocationTree tree, Void none) {
        Element called = trees.getElement(new TreePath(getCurrentPath(), tree.getMethodSelect()));
        if (called.getKind() == ElementKind.CONSTRUCTOR && !isOwn(called)) return null;
        if (isOwn(called)) callFromHere(called);
        else must(tree, called + " is in the library", LIBRARY.contains(
            ((TypeElement) called.getEnclosingElement()).getSimpleName() + "." + called.getSimpleName()));
        return super.visitMethodInvocation(tree, none);
    }

    private void callFromHere(Element called) {
        MethodTree here = methodAround();
        if (here == null) return;
        Element from = trees.getElement(TreePath.getPath(unit, here));
        calls.computeIfAbsent(from, key -> new java.util.LinkedHashSet<>()).add(called);
    }

    @Override public Void visitNewClass(NewClassTree tree, Void none) {
        Element made = trees.getElement(getCurrentPath());
        must(tree, "an own class is made", isOwn(made) && tree.getClassBody() == null);
        callFromHere(made);
        onlyWhenMade(tree);
        return super.visitNewClass(tree, none);
    }

    @Override public Void visitNewArray(NewArrayTree tree, Void none) {
        must(tree, "a row of one dimension", tree.getDimensions().size() == 1);
        onlyWhenMade(tree);
        return super.visitNewArray(tree, none);
    }

    /** Constructors and fields' initialisers alone make anything, so that calls take no room. */
    private void onlyWhenMade(Tree tree) {
        MethodTree around = methodAround();
        must(tree, "no call makes anything", around == null || around.getReturnType() == null);
    }

    // ---- rules 2, 3, 6, 9, 10: what is not written at all, and loops

    @Override public Void visitLambdaExpression(LambdaExpressionTree tree, Void none) {
        never(tree, "a lambda");
        return null;
    }

    @Override public Void visitMemberReference(MemberReferenceTree tree, Void none) {
        never(tree, "a method reference");
        return null;
    }

    @Override public Void visitThrow(ThrowTree tree, Void none) {
        never(tree, "a throw");
        return null;
    }

    @Override public Void visitTry(TryTree tree, Void none) {
        never(tree, "a try");
        return null;
    }

    @Override public Void visitSynchronized(SynchronizedTree tree, Void none) {
        never(tree, "a synchronized");
        return null;
    }

    @Override public Void visitAssert(AssertTree tree, Void none) {
        never(tree, "an assert");
        return null;
    }

    @Override public Void visitInstanceOf(InstanceOfTree tree, Void none) {
        never(tree, "an instanceof");
        return null;
    }

    @Override public Void visitTypeCast(TypeCastTree tree, Void none) {
        must(tree, "a cast of a number", trees.getTypeMirror(new TreePath(getCurrentPath(), tree.getType())).getKind().isPrimitive());
        return super.visitTypeCast(tree, none);
    }

    @Override public Void visitWhileLoop(WhileLoopTree tree, Void none) {
        never(tree, "a while");
        return null;
    }

    @Override public Void visitDoWhileLoop(DoWhileLoopTree tree, Void none) {
        never(tree, "a do");
        return null;
    }

    @Override public Void visitEnhancedForLoop(EnhancedForLoopTree tree, Void none) {
        never(tree, "a for over a row");
        return null;
    }

    /** for (int k = ..; k < or <= .. and perhaps more; k++), and nothing else in it changes k. */
    @Override public Void visitForLoop(ForLoopTree tree, Void none) {
        boolean isOne = tree.getInitializer().size() == 1 && tree.getUpdate().size() == 1
            && tree.getInitializer().get(0) instanceof VariableTree;
        must(tree, "a loop of one counter", isOne);
        if (isOne) {
            String counter = ((VariableTree) tree.getInitializer().get(0)).getName().toString();
            must(tree, "it counts on", tree.getUpdate().get(0).toString().equals(counter + "++;"));
            must(tree, "against a bound", isBounded(tree.getCondition(), counter));
            must(tree, "and is not changed else", !tree.getStatement().toString().matches(
                "(?s).*(?<![.\\w])" + counter + "( [-+*/%&|^]?= |\\+\\+|--).*"));
        }
        return super.visitForLoop(tree, none);
    }

    private static boolean isBounded(ExpressionTree condition, String counter) {
        if (!(condition instanceof BinaryTree both)) return false;
        if (both.getKind() == Tree.Kind.CONDITIONAL_AND) {
            return isBounded(both.getLeftOperand(), counter) || isBounded(both.getRightOperand(), counter);
        }
        return (both.getKind() == Tree.Kind.LESS_THAN || both.getKind() == Tree.Kind.LESS_THAN_EQUAL)
            && both.getLeftOperand().toString().equals(counter);
    }

    /** No text is joined by +, and what divides is a number that cannot be 0 there. */
    @Override public Void visitBinary(BinaryTree tree, Void none) {
        must(tree, "no text by +", !isString(trees.getTypeMirror(getCurrentPath())));
        if (tree.getKind() == Tree.Kind.DIVIDE || tree.getKind() == Tree.Kind.REMAINDER) divides(tree, tree.getRightOperand());
        return super.visitBinary(tree, none);
    }

    @Override public Void visitCompoundAssignment(CompoundAssignmentTree tree, Void none) {
        if (tree.getKind() == Tree.Kind.DIVIDE_ASSIGNMENT || tree.getKind() == Tree.Kind.REMAINDER_ASSIGNMENT) {
            divides(tree, tree.getExpression());
        }
        return super.visitCompoundAssignment(tree, none);
    }

    /** A literal, a constant, or the counter of odds' loop over 2 and 3. */
    private void divides(Tree tree, ExpressionTree divisor) {
        must(tree, "divided by a constant", Set.of("3", "VALUES", "divisor").contains(divisor.toString()));
    }
}
