import com.sun.source.tree.ArrayAccessTree;
import com.sun.source.tree.AssignmentTree;
import com.sun.source.tree.BinaryTree;
import com.sun.source.tree.ClassTree;
import com.sun.source.tree.CompilationUnitTree;
import com.sun.source.tree.CompoundAssignmentTree;
import com.sun.source.tree.ExpressionTree;
import com.sun.source.tree.IdentifierTree;
import com.sun.source.tree.MemberSelectTree;
import com.sun.source.tree.MethodInvocationTree;
import com.sun.source.tree.MethodTree;
import com.sun.source.tree.NewArrayTree;
import com.sun.source.tree.NewClassTree;
import com.sun.source.tree.Tree;
import com.sun.source.tree.TypeCastTree;
import com.sun.source.tree.UnaryTree;
import com.sun.source.tree.VariableTree;
import com.sun.source.util.JavacTask;
import com.sun.source.util.SourcePositions;
import com.sun.source.util.TreePath;
import com.sun.source.util.TreePathScanner;
import com.sun.source.util.Trees;
import java.io.IOException;
import java.nio.file.Files;
import java.nio.file.Path;
import java.util.EnumSet;
import java.util.HashMap;
import java.util.HashSet;
import java.util.Map;
import java.util.Set;
import java.util.TreeSet;
import javax.lang.model.element.Element;
import javax.lang.model.element.ElementKind;
import javax.lang.model.element.Modifier;
import javax.lang.model.element.TypeElement;
import javax.lang.model.element.VariableElement;
import javax.lang.model.type.ArrayType;
import javax.lang.model.type.TypeMirror;
import javax.tools.JavaCompiler;
import javax.tools.StandardJavaFileManager;
import javax.tools.ToolProvider;

/** The rules of ../shared/LANGUAGE.md that can be read off the program's text, by javac's own reading of it. */
public final class LanguageTest extends TreePathScanner<Void, Void> {
    private static final Path PROGRAM = Path.of("src/main/java/DeepShip.java");
    private static final int MOST_PARAMETERS = 7, MOST_LINES = 60, MOST_DEPTH = 8, MOST_CLASSES = 12, MOST_FIELDS = 20;
    private static final Due DUE = new Due();

    /** Of what rule 4 lists, what the program uses; no more comes in unseen. */
    private static final Set<String> LIBRARY = Set.of("java.lang.Math.max", "java.lang.Math.min", "java.lang.Math.abs",
        "java.lang.Math.floorMod", "java.lang.Integer.compare", "java.lang.Long.bitCount", "java.lang.System.arraycopy",
        "java.lang.Object.<init>");

    /** Rules 2, 6 and 10. */
    private static final Set<Tree.Kind> RULED_OUT = EnumSet.of(Tree.Kind.IMPORT, Tree.Kind.PACKAGE, Tree.Kind.LAMBDA_EXPRESSION,
        Tree.Kind.MEMBER_REFERENCE, Tree.Kind.THROW, Tree.Kind.TRY, Tree.Kind.ASSERT, Tree.Kind.SYNCHRONIZED, Tree.Kind.INSTANCE_OF,
        Tree.Kind.ANNOTATION);

    private final CompilationUnitTree unit;
    private final Trees trees;
    private final SourcePositions places;
    private final Map<String, Set<String>> calls = new HashMap<>();
    private final Map<String, Integer> fields = new HashMap<>();
    private final Set<String> recursive = new TreeSet<>();

    private LanguageTest(JavacTask task, CompilationUnitTree unit) {
        this.unit = unit;
        trees = Trees.instance(task);
        places = trees.getSourcePositions();
    }

    public static void main(String[] args) throws IOException {
        JavaCompiler javac = ToolProvider.getSystemJavaCompiler();
        try (StandardJavaFileManager files = javac.getStandardFileManager(null, null, null)) {
            JavacTask task = (JavacTask) javac.getTask(null, files, null, null, null, files.getJavaFileObjects(PROGRAM));
            CompilationUnitTree unit = task.parse().iterator().next();
            task.analyze();
            LanguageTest test = new LanguageTest(task, unit);
            test.scan(unit, null);
            test.finish();
        }
        signs();
        DUE.finish();
    }

    /** Rule 4: signs of texts are 1 to 127; the whole file keeps to it. */
    private static void signs() throws IOException {
        Files.readString(PROGRAM).chars().filter(sign -> sign > 126).forEach(sign -> DUE.due("a sign of the program", sign, ' '));
    }

    private void finish() {
        holds("rule 11, classes: " + fields.size(), fields.size() <= MOST_CLASSES);
        fields.forEach((name, many) -> holds("rule 11, fields of " + name + ": " + many, many <= MOST_FIELDS));
        int deepest = 0;
        for (String method : calls.keySet()) {
            deepest = Math.max(deepest, depth(method, new HashSet<>()));
        }
        holds("rule 11, calls " + deepest + " deep", deepest <= MOST_DEPTH);
        holds("rule 8, recursion in " + recursive, recursive.equals(Set.of("Day.tryNext")));
    }

    private static void holds(String what, boolean does) {
        DUE.due(what + " (1: as ruled)", does ? 1 : 0, 1);
    }

    private String at(Tree tree) {
        return "line " + line(places.getStartPosition(unit, tree)) + ": ";
    }

    private long line(long place) {
        return unit.getLineMap().getLineNumber(place);
    }

    /** How many calls stand open at once; a method that calls itself counts once. */
    private int depth(String method, Set<String> open) {
        if (!open.add(method)) {
            recursive.add(method);
            return 0;
        }
        int deepest = 0;
        for (String called : calls.getOrDefault(method, Set.of())) {
            deepest = Math.max(deepest, depth(called, open));
        }
        open.remove(method);
        return deepest + 1;
    }

    // ---- what is ruled out wherever it stands

    @Override
    public Void scan(Tree tree, Void none) {
        if (tree != null) {
            holds(at(tree) + "rules 2, 6, 10, no " + tree.getKind(), !RULED_OUT.contains(tree.getKind()));
        }
        return super.scan(tree, none);
    }

    @Override
    public Void visitBinary(BinaryTree tree, Void none) {
        holds(at(tree) + "rule 10, texts are not joined by +", type(getCurrentPath()).getKind().isPrimitive());
        return super.visitBinary(tree, none);
    }

    private TypeMirror type(TreePath path) {
        return trees.getTypeMirror(path);
    }

    // ---- classes, fields, variables

    @Override
    public Void visitClass(ClassTree tree, Void none) {
        Set<Modifier> flags = tree.getModifiers().getFlags();
        boolean outer = getCurrentPath().getParentPath().getLeaf() == unit;
        boolean member = getCurrentPath().getParentPath().getLeaf() instanceof ClassTree;
        // A final class has no methods that another could override: rule 12's word on constructors.
        boolean asRuled = outer ? flags.equals(Set.of(Modifier.PUBLIC, Modifier.FINAL))
            : member && flags.equals(Set.of(Modifier.PRIVATE, Modifier.STATIC, Modifier.FINAL));
        holds(at(tree) + "rules 1, 2, 12, class " + tree.getSimpleName() + " " + flags, asRuled);
        fields.put(tree.getSimpleName().toString(), 0);
        return super.visitClass(tree, none);
    }

    @Override
    public Void visitVariable(VariableTree tree, Void none) {
        Element variable = trees.getElement(getCurrentPath());
        TypeMirror type = variable.asType();
        holds(at(tree) + "rule 3, type " + type, isType(type));
        if (variable.getKind() == ElementKind.FIELD) {
            field(tree, variable);
        }
        return super.visitVariable(tree, none);
    }

    private static boolean isType(TypeMirror type) {
        if (!(type instanceof ArrayType row)) {
            return isNumber(type) || type.toString().equals("boolean") || isOwn(type.toString());
        }
        TypeMirror of = row.getComponentType();
        return isNumber(of) || isOwn(of.toString()) || of instanceof ArrayType inner && isNumber(inner.getComponentType());
    }

    private static boolean isNumber(TypeMirror type) {
        return Set.of("int", "long", "short", "byte", "char").contains(type.toString());
    }

    private static boolean isOwn(String type) {
        return type.equals("DeepShip") || type.startsWith("DeepShip.");
    }

    private void field(VariableTree tree, Element field) {
        if (!field.getModifiers().contains(Modifier.STATIC)) {
            fields.merge(field.getEnclosingElement().getSimpleName().toString(), 1, Integer::sum);
            return;
        }
        boolean constant = ((VariableElement) field).getConstantValue() != null;
        boolean written = tree.getInitializer() instanceof NewArrayTree row && row.getInitializers() != null
            && row.getInitializers().stream().allMatch(item -> item.getKind() == Tree.Kind.INT_LITERAL);
        holds(at(tree) + "rule 5, static " + tree.getName(), field.getModifiers().contains(Modifier.FINAL) && (constant || written));
    }

    // ---- rule 5: rows of constants are never changed, nor handed to what could change them

    @Override
    public Void visitIdentifier(IdentifierTree tree, Void none) {
        Element named = trees.getElement(getCurrentPath());
        if (named.getKind() == ElementKind.FIELD && named.getModifiers().contains(Modifier.STATIC)
            && named.asType() instanceof ArrayType) {
            holds(at(tree) + "rule 5, " + tree.getName() + " is only read", isRead(getCurrentPath().getParentPath()));
        }
        return super.visitIdentifier(tree, none);
    }

    private static boolean isRead(TreePath user) {
        Tree tree = user.getLeaf();
        if (tree instanceof MemberSelectTree select) {
            return select.getIdentifier().contentEquals("length");
        }
        Tree around = user.getParentPath().getLeaf();
        boolean changed = around instanceof AssignmentTree set && set.getVariable() == tree
            || around instanceof CompoundAssignmentTree more && more.getVariable() == tree
            || around instanceof UnaryTree unary && unary.getKind().name().matches(".*(INCREMENT|DECREMENT)");
        return tree instanceof ArrayAccessTree && !changed;
    }

    // ---- methods, calls, what is made

    @Override
    public Void visitMethod(MethodTree tree, Void none) {
        long from = line(places.getStartPosition(unit, tree));
        long lines = line(places.getEndPosition(unit, tree)) - from + 1;
        holds(at(tree) + "rule 11, lines of " + tree.getName() + ": " + lines, lines <= MOST_LINES);
        holds(at(tree) + "rule 11, parameters of " + tree.getName(), tree.getParameters().size() <= MOST_PARAMETERS);
        calls.putIfAbsent(name(trees.getElement(getCurrentPath())), new TreeSet<>());
        return super.visitMethod(tree, none);
    }

    private static String name(Element method) {
        return method.getEnclosingElement().getSimpleName() + "." + method.getSimpleName();
    }

    /** The method in which the scanner is; null: a field's first value. */
    private TreePath methodAround() {
        TreePath path = getCurrentPath();
        while (path != null && !(path.getLeaf() instanceof MethodTree)) {
            path = path.getParentPath();
        }
        return path;
    }

    @Override
    public Void visitMethodInvocation(MethodInvocationTree tree, Void none) {
        Element called = trees.getElement(getCurrentPath());
        String holder = ((TypeElement) called.getEnclosingElement()).getQualifiedName().toString();
        holds(at(tree) + "rule 4, " + holder + "." + called.getSimpleName(),
            isOwn(holder) || LIBRARY.contains(holder + "." + called.getSimpleName()));
        TreePath method = methodAround();
        holds(at(tree) + "rule 12, a field's first value is no call", method != null);
        if (method != null) {
            calls.computeIfAbsent(name(trees.getElement(method)), caller -> new TreeSet<>()).add(name(called));
        }
        return super.visitMethodInvocation(tree, none);
    }

    /** The room: whatever is made is made with the object, none by a call. */
    private void made(ExpressionTree tree) {
        holds(at(tree) + "rule 12, calls make nothing", methodAround() == null);
    }

    @Override
    public Void visitNewClass(NewClassTree tree, Void none) {
        made(tree);
        holds(at(tree) + "rules 2, 3, new " + tree.getIdentifier(),
            tree.getClassBody() == null && isOwn(type(getCurrentPath()).toString()));
        return super.visitNewClass(tree, none);
    }

    @Override
    public Void visitNewArray(NewArrayTree tree, Void none) {
        made(tree);
        return super.visitNewArray(tree, none);
    }

    /** Casts among numbers alone. */
    @Override
    public Void visitTypeCast(TypeCastTree tree, Void none) {
        holds(at(tree) + "rule 6, a cast to " + tree.getType(), tree.getType().getKind() == Tree.Kind.PRIMITIVE_TYPE);
        return super.visitTypeCast(tree, none);
    }
}
