import com.sun.source.tree.AnnotationTree;
import com.sun.source.tree.AssertTree;
import com.sun.source.tree.BinaryTree;
import com.sun.source.tree.BlockTree;
import com.sun.source.tree.ClassTree;
import com.sun.source.tree.CompilationUnitTree;
import com.sun.source.tree.CompoundAssignmentTree;
import com.sun.source.tree.DoWhileLoopTree;
import com.sun.source.tree.ExpressionTree;
import com.sun.source.tree.ForLoopTree;
import com.sun.source.tree.IdentifierTree;
import com.sun.source.tree.ImportTree;
import com.sun.source.tree.InstanceOfTree;
import com.sun.source.tree.LambdaExpressionTree;
import com.sun.source.tree.LiteralTree;
import com.sun.source.tree.MemberReferenceTree;
import com.sun.source.tree.MemberSelectTree;
import com.sun.source.tree.MethodInvocationTree;
import com.sun.source.tree.MethodTree;
import com.sun.source.tree.NewArrayTree;
import com.sun.source.tree.NewClassTree;
import com.sun.source.tree.SynchronizedTree;
import com.sun.source.tree.ThrowTree;
import com.sun.source.tree.Tree;
import com.sun.source.tree.TryTree;
import com.sun.source.tree.TypeCastTree;
import com.sun.source.tree.VariableTree;
import com.sun.source.tree.WhileLoopTree;
import com.sun.source.util.JavacTask;
import com.sun.source.util.TreePath;
import com.sun.source.util.TreePathScanner;
import com.sun.source.util.Trees;
import java.io.IOException;
import java.nio.file.Files;
import java.nio.file.Path;
import java.util.HashMap;
import java.util.HashSet;
import java.util.LinkedHashSet;
import java.util.List;
import java.util.Map;
import java.util.Set;
import javax.lang.model.element.Element;
import javax.lang.model.element.ExecutableElement;
import javax.lang.model.element.Modifier;
import javax.lang.model.element.VariableElement;
import javax.lang.model.type.TypeKind;
import javax.lang.model.type.TypeMirror;
import javax.tools.JavaCompiler;
import javax.tools.StandardJavaFileManager;
import javax.tools.ToolProvider;

/**
 * The rules of ../shared/LANGUAGE.md that can be seen in the class's syntax tree, each fault told
 * with its rule's number. The test asks for less than the rules allow where the class needs less:
 * no texts, no doubles, no lists, no try, no casts, no recursion.
 */
public final class LanguageTest extends TreePathScanner<Void, Void> {
    private static final Path SOURCE = Path.of("src/main/java/FilmPlayer.java");
    private static final Set<String> TYPES = Set.of("int", "int[]", "boolean", "boolean[]");
    private static final Set<String> LIBRARY = Set.of("java.lang.Math.max(int,int)", "java.lang.Math.min(int,int)");
    private static final Set<String> THROWN = Set.of(
        "IllegalArgumentException", "IllegalStateException", "IndexOutOfBoundsException");
    private static final Set<String> NEVER_DEFINED = Set.of("equals", "hashCode", "toString", "clone", "finalize");
    private static final int MOST_PARAMETERS = 7;
    private static final int MOST_LINES = 60;
    private static final int MOST_CALLS_DEEP = 8;
    private static final int MOST_CLASSES = 12;
    private static final int MOST_FIELDS = 20;

    private static final Check CHECK = new Check("LanguageTest");

    private final Trees trees;
    private final CompilationUnitTree unit;
    private final Set<String> faults = new LinkedHashSet<>();
    private final Set<String> ownClasses = new HashSet<>();
    private final Map<String, Integer> fieldsOfClass = new HashMap<>();
    private final Set<String> faceNames = new HashSet<>();
    private final Set<String> insideNames = new HashSet<>();
    // each method with those of the file that it calls; a constructor's is its class's name
    private final Map<String, Set<String>> calls = new HashMap<>();

    private LanguageTest(Trees trees, CompilationUnitTree unit) {
        this.trees = trees;
        this.unit = unit;
    }

    public static void main(String[] args) throws IOException {
        String text = Files.readString(SOURCE);
        CHECK.due("rule 3: signs beyond 127", text.chars().filter(sign -> sign > 127).count(), 0);
        CHECK.due("faults in the class", faultsOf(SOURCE), "[]");
        CHECK.end();
    }

    private static String faultsOf(Path source) throws IOException {
        JavaCompiler compiler = ToolProvider.getSystemJavaCompiler();
        try (StandardJavaFileManager files = compiler.getStandardFileManager(null, null, null)) {
            JavacTask task = (JavacTask) compiler.getTask(
                null, files, null, List.of("-proc:none"), null, files.getJavaFileObjects(source));
            CompilationUnitTree unit = task.parse().iterator().next();
            task.analyze();
            LanguageTest scanner = new LanguageTest(Trees.instance(task), unit);
            scanner.look();
            return scanner.faults.toString();
        }
    }

    private void look() {
        due(1, "the file has no package line and no import",
            unit.getPackage() == null && unit.getImports().isEmpty());
        due(1, "the file has one class", unit.getTypeDecls().size() == 1);
        scan(unit, null);
        due(11, "few classes", ownClasses.size() <= MOST_CLASSES);
        for (Map.Entry<String, Integer> fields : fieldsOfClass.entrySet()) {
            due(11, "few fields in " + fields.getKey(), fields.getValue() <= MOST_FIELDS);
        }
        for (String name : insideNames) {
            due(1, name + " is no name of the face", !faceNames.contains(name));
        }
        for (String method : calls.keySet()) {
            int depth = depthOf(method, new HashSet<>());
            due(11, method + " goes " + depth + " deep", depth <= MOST_CALLS_DEEP);
        }
    }

    private void due(int rule, String what, boolean holds) {
        if (!holds) {
            faults.add("rule " + rule + ": not so: " + what);
        }
    }

    private void never(int rule, Tree tree) {
        faults.add("rule " + rule + ": " + tree.toString().strip());
    }

    /** How many methods stand open at once below this one, itself counted; a recursion is a fault. */
    private int depthOf(String method, Set<String> open) {
        if (!open.add(method)) {
            faults.add("rule 8: " + method + " calls itself");
            return 0;
        }
        int deepest = 0;
        for (String called : calls.getOrDefault(method, Set.of())) {
            deepest = Math.max(deepest, depthOf(called, open));
        }
        open.remove(method);
        return 1 + deepest;
    }

    private long linesOf(Tree tree) {
        long start = trees.getSourcePositions().getStartPosition(unit, tree);
        long end = trees.getSourcePositions().getEndPosition(unit, tree);
        return unit.getLineMap().getLineNumber(end) - unit.getLineMap().getLineNumber(start) + 1;
    }

    private Element elementOf(Tree tree) {
        return trees.getElement(new TreePath(getCurrentPath().getParentPath(), tree));
    }

    private boolean isOwn(Element element) {
        Element around = element;
        while (around != null && !around.toString().equals("FilmPlayer")) {
            around = around.getEnclosingElement();
        }
        return around != null;
    }

    private static String nameOf(Element method) {
        return method.getEnclosingElement() + "." + method;
    }

    /** The method or constructor that stands round this place; null in the beginning of a field. */
    private MethodTree methodAround() {
        for (Tree tree : getCurrentPath()) {
            if (tree instanceof MethodTree) {
                return (MethodTree) tree;
            }
        }
        return null;
    }

    @Override
    public Void visitClass(ClassTree tree, Void none) {
        Element element = trees.getElement(getCurrentPath());
        ownClasses.add(element.toString());
        Set<Modifier> modifiers = tree.getModifiers().getFlags();
        Tree parent = getCurrentPath().getParentPath().getLeaf();
        if (parent == unit) {
            due(1, "public final FilmPlayer", modifiers.equals(Set.of(Modifier.PUBLIC, Modifier.FINAL)));
        } else {
            due(1, tree.getSimpleName() + " is private and static", parent instanceof ClassTree
                && modifiers.contains(Modifier.PRIVATE) && modifiers.contains(Modifier.STATIC));
        }
        due(12, tree.getSimpleName() + " is final, so that no other overrides", modifiers.contains(Modifier.FINAL));
        due(2, tree.getSimpleName() + " extends nothing",
            tree.getExtendsClause() == null && tree.getImplementsClause().isEmpty());
        for (Tree member : tree.getMembers()) {
            due(5, "no initialiser block", !(member instanceof BlockTree));
        }
        return super.visitClass(tree, none);
    }

    @Override
    public Void visitMethod(MethodTree tree, Void none) {
        ExecutableElement element = (ExecutableElement) trees.getElement(getCurrentPath());
        calls.computeIfAbsent(nameOf(element), name -> new HashSet<>());
        String name = tree.getName().toString();
        if (element.getModifiers().contains(Modifier.PUBLIC)) {
            faceNames.add(name);
        } else if (tree.getReturnType() != null) {
            insideNames.add(name);
        }
        due(6, name + " is not one of an object's own", !NEVER_DEFINED.contains(name));
        due(6, name + " tells its exceptions by the face alone",
            tree.getThrows().isEmpty() || element.getModifiers().contains(Modifier.PUBLIC));
        due(11, name + " has few parameters", tree.getParameters().size() <= MOST_PARAMETERS);
        due(11, name + " is short", linesOf(tree) <= MOST_LINES);
        return super.visitMethod(tree, none);
    }

    @Override
    public Void visitVariable(VariableTree tree, Void none) {
        VariableElement element = (VariableElement) trees.getElement(getCurrentPath());
        TypeMirror type = element.asType();
        due(3, tree.getName() + " is of a type that the class uses",
            TYPES.contains(type.toString()) || isOwnClass(type));
        if (element.getKind().isField()) {
            lookAtField(tree, element);
        }
        return super.visitVariable(tree, none);
    }

    private boolean isOwnClass(TypeMirror type) {
        return type.getKind() == TypeKind.DECLARED && type.toString().startsWith("FilmPlayer.");
    }

    private void lookAtField(VariableTree tree, VariableElement element) {
        Set<Modifier> modifiers = element.getModifiers();
        if (modifiers.contains(Modifier.STATIC)) {
            due(5, tree.getName() + " is a constant of a number",
                modifiers.contains(Modifier.FINAL) && element.getConstantValue() != null);
        } else {
            due(1, tree.getName() + " is private", modifiers.contains(Modifier.PRIVATE));
            fieldsOfClass.merge(element.getEnclosingElement().toString(), 1, Integer::sum);
        }
    }

    @Override
    public Void visitMethodInvocation(MethodInvocationTree tree, Void none) {
        Element called = trees.getElement(getCurrentPath());
        boolean isOwnersBeginning = called.toString().equals("Object()");
        if (isOwn(called)) {
            noteCall(called);
        } else if (!isOwnersBeginning) {
            due(4, nameOf(called) + " is in the library's part", LIBRARY.contains(nameOf(called)));
        }
        return super.visitMethodInvocation(tree, none);
    }

    private void noteCall(Element called) {
        MethodTree around = methodAround();
        due(12, "a field begins without a call of " + called, around != null);
        if (around != null) {
            Element caller = trees.getElement(trees.getPath(unit, around));
            calls.computeIfAbsent(nameOf(caller), name -> new HashSet<>()).add(nameOf(called));
        }
    }

    @Override
    public Void visitThrow(ThrowTree tree, Void none) {
        MethodTree around = methodAround();
        due(6, "no throw in a constructor", around != null && around.getReturnType() != null);
        ExpressionTree thrown = tree.getExpression();
        boolean isNew = thrown instanceof NewClassTree;
        due(6, "throw new E(..): " + tree, isNew);
        if (isNew && around != null) {
            NewClassTree made = (NewClassTree) thrown;
            String name = made.getIdentifier().toString();
            due(6, name + " is one that the document names", THROWN.contains(name));
            due(6, "a written text: " + tree, made.getArguments().isEmpty()
                || made.getArguments().size() == 1 && made.getArguments().get(0) instanceof LiteralTree);
            due(6, around.getName() + " says that it throws " + name,
                around.getThrows().stream().anyMatch(said -> said.toString().equals(name)));
        }
        return super.visitThrow(tree, none);
    }

    /** A call makes nothing but the exception that it throws: all rows are made in constructors. */
    @Override
    public Void visitNewClass(NewClassTree tree, Void none) {
        due(2, "no anonymous class", tree.getClassBody() == null);
        boolean isThrown = getCurrentPath().getParentPath().getLeaf() instanceof ThrowTree;
        due(12, "made in a constructor, or thrown: " + tree, isThrown || isInConstructor());
        if (!isThrown) {
            due(4, tree.getIdentifier() + " is a class of the file", isOwn(trees.getElement(getCurrentPath())));
        }
        return super.visitNewClass(tree, none);
    }

    @Override
    public Void visitNewArray(NewArrayTree tree, Void none) {
        due(12, "made in a constructor: " + tree, isInConstructor());
        for (ExpressionTree length : tree.getDimensions()) {
            due(7, "a constant length: " + tree, isConstant(length));
        }
        return super.visitNewArray(tree, none);
    }

    private boolean isInConstructor() {
        MethodTree around = methodAround();
        return around == null || around.getReturnType() == null;
    }

    private boolean isConstant(Tree tree) {
        Element element = elementOf(tree);
        return tree instanceof LiteralTree
            || element instanceof VariableElement && ((VariableElement) element).getConstantValue() != null;
    }

    @Override
    public Void visitBinary(BinaryTree tree, Void none) {
        if (tree.getKind() == Tree.Kind.DIVIDE || tree.getKind() == Tree.Kind.REMAINDER) {
            due(7, "a constant divisor: " + tree, isConstant(tree.getRightOperand()));
        }
        return super.visitBinary(tree, none);
    }

    @Override
    public Void visitCompoundAssignment(CompoundAssignmentTree tree, Void none) {
        due(7, "a division stands alone: " + tree, tree.getKind() != Tree.Kind.DIVIDE_ASSIGNMENT
            && tree.getKind() != Tree.Kind.REMAINDER_ASSIGNMENT);
        return super.visitCompoundAssignment(tree, none);
    }

    /** Every loop is a for with a test and a step, whose counter nothing but the step changes. */
    @Override
    public Void visitForLoop(ForLoopTree tree, Void none) {
        due(9, "a test and a step: " + tree, tree.getCondition() != null && tree.getUpdate().size() == 1
            && tree.getInitializer().size() == 1 && tree.getInitializer().get(0) instanceof VariableTree);
        if (tree.getUpdate().size() == 1 && tree.getInitializer().get(0) instanceof VariableTree) {
            String counter = ((VariableTree) tree.getInitializer().get(0)).getName().toString();
            due(9, "the step counts up: " + tree, tree.getUpdate().get(0).toString().equals(counter + "++;"));
            String body = tree.getStatement().toString();
            due(9, "the body leaves " + counter, !body.matches("(?s).*\\b" + counter + "(\\+\\+|--| [-+*/]?= ).*"));
        }
        return super.visitForLoop(tree, none);
    }

    @Override
    public Void visitWhileLoop(WhileLoopTree tree, Void none) {
        never(9, tree);
        return null;
    }

    @Override
    public Void visitDoWhileLoop(DoWhileLoopTree tree, Void none) {
        never(9, tree);
        return null;
    }

    /** "this" serves to name a field, and is handed to nobody. */
    @Override
    public Void visitIdentifier(IdentifierTree tree, Void none) {
        boolean isSelected = getCurrentPath().getParentPath().getLeaf() instanceof MemberSelectTree;
        due(12, "this is not handed out", !tree.getName().contentEquals("this") || isSelected);
        return super.visitIdentifier(tree, none);
    }

    @Override
    public Void visitLiteral(LiteralTree tree, Void none) {
        due(7, "no null", tree.getKind() != Tree.Kind.NULL_LITERAL);
        if (tree.getKind() == Tree.Kind.STRING_LITERAL) {
            due(3, "a text stands in an exception alone: " + tree,
                getCurrentPath().getParentPath().getParentPath().getLeaf() instanceof ThrowTree);
        }
        return super.visitLiteral(tree, none);
    }

    @Override
    public Void visitImport(ImportTree tree, Void none) {
        never(1, tree);
        return null;
    }

    @Override
    public Void visitLambdaExpression(LambdaExpressionTree tree, Void none) {
        never(2, tree);
        return null;
    }

    @Override
    public Void visitMemberReference(MemberReferenceTree tree, Void none) {
        never(2, tree);
        return null;
    }

    @Override
    public Void visitAnnotation(AnnotationTree tree, Void none) {
        never(4, tree);
        return null;
    }

    @Override
    public Void visitTry(TryTree tree, Void none) {
        never(6, tree);
        return null;
    }

    @Override
    public Void visitSynchronized(SynchronizedTree tree, Void none) {
        never(6, tree);
        return null;
    }

    @Override
    public Void visitAssert(AssertTree tree, Void none) {
        never(6, tree);
        return null;
    }

    @Override
    public Void visitInstanceOf(InstanceOfTree tree, Void none) {
        never(6, tree);
        return null;
    }

    @Override
    public Void visitTypeCast(TypeCastTree tree, Void none) {
        never(7, tree);
        return null;
    }
}
