import com.sun.source.tree.BinaryTree;
import com.sun.source.tree.BlockTree;
import com.sun.source.tree.ClassTree;
import com.sun.source.tree.CompilationUnitTree;
import com.sun.source.tree.CompoundAssignmentTree;
import com.sun.source.tree.EnhancedForLoopTree;
import com.sun.source.tree.ExpressionTree;
import com.sun.source.tree.ForLoopTree;
import com.sun.source.tree.ImportTree;
import com.sun.source.tree.LiteralTree;
import com.sun.source.tree.MethodInvocationTree;
import com.sun.source.tree.MethodTree;
import com.sun.source.tree.NewArrayTree;
import com.sun.source.tree.NewClassTree;
import com.sun.source.tree.Tree;
import com.sun.source.tree.TypeCastTree;
import com.sun.source.tree.VariableTree;
import com.sun.source.util.JavacTask;
import com.sun.source.util.TreePath;
import com.sun.source.util.TreePathScanner;
import com.sun.source.util.Trees;
import java.io.File;
import java.io.IOException;
import java.util.ArrayList;
import java.util.HashMap;
import java.util.HashSet;
import java.util.LinkedHashSet;
import java.util.List;
import java.util.Map;
import java.util.Set;
import java.util.regex.Pattern;
import javax.lang.model.element.Element;
import javax.lang.model.element.ElementKind;
import javax.lang.model.element.ExecutableElement;
import javax.lang.model.element.Modifier;
import javax.lang.model.element.TypeElement;
import javax.lang.model.element.VariableElement;
import javax.lang.model.type.TypeKind;
import javax.lang.model.type.TypeMirror;
import javax.lang.model.util.ElementFilter;
import javax.lang.model.util.Elements;
import javax.tools.JavaCompiler;
import javax.tools.StandardJavaFileManager;
import javax.tools.ToolProvider;

/**
 * What can be seen of LANGUAGE.md's rules in the class as javac reads it. It is narrower than the
 * rules where the class needs less: it throws nothing, and no call makes an object.
 */
public final class LanguageTest extends TreePathScanner<Void, Void> {
    private static final File SOURCE = new File("src/main/java/ShameYards.java");
    private static final Set<String> LIBRARY = Set.of("java.util.Arrays.fill", "java.lang.System.arraycopy",
            "java.lang.Math.max", "java.lang.Math.min", "java.lang.String.indexOf", "java.lang.Object.<init>");
    private static final Map<Tree.Kind, String> RULED_OUT = Map.of(
            Tree.Kind.LAMBDA_EXPRESSION, "rule 2: there is no lambda",
            Tree.Kind.MEMBER_REFERENCE, "rule 2: there is no method reference",
            Tree.Kind.TRY, "rule 6: nothing is caught, as nothing is thrown",
            Tree.Kind.THROW, "rule 6: nothing is thrown, as the document wants no exception",
            Tree.Kind.SYNCHRONIZED, "rule 6: there is no synchronized",
            Tree.Kind.ASSERT, "rule 6: there is no assert",
            Tree.Kind.WHILE_LOOP, "rule 9: loops are counted ones",
            Tree.Kind.DO_WHILE_LOOP, "rule 9: loops are counted ones",
            Tree.Kind.ANNOTATION, "rule 4: there is no annotation, as none is named");
    private static final int MOST_PARAMETERS = 7;
    private static final int MOST_LINES = 60;
    private static final int MOST_DEEP = 8;
    private static final int MOST_CLASSES = 12;
    private static final int MOST_FIELDS = 20;

    private static final Due due = new Due();

    private final CompilationUnitTree unit;
    private final Trees trees;
    private final Elements elements;
    private final List<ExecutableElement> methods = new ArrayList<>();
    private final Map<ExecutableElement, Set<ExecutableElement>> callsOf = new HashMap<>();
    private int classes;

    private LanguageTest(CompilationUnitTree unit, JavacTask task) {
        this.unit = unit;
        this.trees = Trees.instance(task);
        this.elements = task.getElements();
    }

    public static void main(String[] args) throws IOException {
        JavaCompiler compiler = ToolProvider.getSystemJavaCompiler();
        try (StandardJavaFileManager files = compiler.getStandardFileManager(null, null, null)) {
            JavacTask task = (JavacTask) compiler.getTask(null, files, null, List.of("--release", "17"), null,
                    files.getJavaFileObjects(SOURCE));
            CompilationUnitTree unit = task.parse().iterator().next();
            task.analyze();
            LanguageTest test = new LanguageTest(unit, task);
            test.findMethods(test.elements.getTypeElement("ShameYards"));
            test.scan(new TreePath(unit), null);
            test.depths();
        }
        due.end("LanguageTest");
    }

    private void findMethods(TypeElement type) {
        methods.addAll(ElementFilter.methodsIn(type.getEnclosedElements()));
        ElementFilter.typesIn(type.getEnclosedElements()).forEach(this::findMethods);
    }

    private void holds(Tree at, String what, boolean is) {
        long line = unit.getLineMap().getLineNumber(start(at));
        due.promise("ShameYards.java, line " + line);
        due.holds(what, is);
    }

    private long start(Tree tree) {
        return Math.max(0, trees.getSourcePositions().getStartPosition(unit, tree));
    }

    private Element here() {
        return trees.getElement(getCurrentPath());
    }

    private TypeMirror typeOf(Tree part) {
        return trees.getTypeMirror(new TreePath(getCurrentPath(), part));
    }

    private boolean isOwn(Element element) {
        for (Element one = element; one != null; one = one.getEnclosingElement()) {
            if (one.getSimpleName().contentEquals("ShameYards")) {
                return true;
            }
        }
        return false;
    }

    // ---- rules 1, 2 and 11: classes, fields, methods

    @Override
    public Void visitClass(ClassTree tree, Void none) {
        classes++;
        TypeElement type = (TypeElement) here();
        holds(tree, "rule 11: there are some twelve classes", classes <= MOST_CLASSES);
        holds(tree, "rule 2: it stands in a class or is the public one",
                type.getEnclosingElement().getKind() != ElementKind.METHOD && !type.getSimpleName().isEmpty());
        long fields = type.getEnclosedElements().stream().filter(one -> one.getKind() == ElementKind.FIELD
                && !one.getModifiers().contains(Modifier.STATIC)).count();
        holds(tree, "rule 11: it has some twenty fields: " + fields, fields <= MOST_FIELDS);
        return super.visitClass(tree, none);
    }

    @Override
    public Void visitMethod(MethodTree tree, Void none) {
        holds(tree, "rule 11: it takes at most seven", tree.getParameters().size() <= MOST_PARAMETERS);
        long end = trees.getSourcePositions().getEndPosition(unit, tree);
        long lines = end < 0 ? 0 : unit.getLineMap().getLineNumber(end) - unit.getLineMap().getLineNumber(start(tree));
        holds(tree, "rule 11: it is short: " + lines, lines < MOST_LINES);
        holds(tree, "rule 6: it tells of no exception", tree.getThrows().isEmpty());
        return super.visitMethod(tree, none);
    }

    @Override
    public Void visitBlock(BlockTree tree, Void none) {
        boolean initialiser = getCurrentPath().getParentPath().getLeaf() instanceof ClassTree;
        holds(tree, "rule 5: it is no initialiser block", !initialiser);
        return super.visitBlock(tree, none);
    }

    // ---- rules 3 and 5: types, static fields

    @Override
    public Void visitVariable(VariableTree tree, Void none) {
        Element variable = here();
        TypeMirror type = variable.asType();
        if (variable.getModifiers().contains(Modifier.STATIC)) {
            boolean constant = type.getKind().isPrimitive() || type.toString().equals("java.lang.String");
            holds(tree, "rule 5: a static field is a constant",
                    constant && variable.getModifiers().contains(Modifier.FINAL));
        }
        String name = type.toString().replace("[][]", "[]");
        holds(tree, "rule 3: it is of a type that may be: " + name, name.matches("(int|long|boolean)(\\[\\])?")
                || name.equals("java.lang.String") || name.matches("ShameYards\\.\\w+(\\[\\])?"));
        holds(tree, "rule 3: own objects stand in one dimension", !type.toString().matches("ShameYards.*\\[\\]\\[\\]"));
        return super.visitVariable(tree, none);
    }

    @Override
    public Void visitImport(ImportTree tree, Void none) {
        String name = tree.getQualifiedIdentifier().toString();
        holds(tree, "rule 4: only what stands there is imported: " + name, name.equals("java.util.Arrays"));
        return super.visitImport(tree, none);
    }

    @Override
    public Void visitTypeCast(TypeCastTree tree, Void none) {
        holds(tree, "rule 6: only numbers are cast", typeOf(tree.getType()).getKind().isPrimitive());
        return super.visitTypeCast(tree, none);
    }

    @Override
    public Void visitLiteral(LiteralTree tree, Void none) {
        if (tree.getValue() instanceof String text) {
            holds(tree, "rule 4: a text's signs are 1 to 127", text.chars().allMatch(sign -> sign >= 1 && sign <= 127));
        }
        return super.visitLiteral(tree, none);
    }

    // ---- rules 6, 7 and 10: what is compared, divided and joined

    @Override
    public Void visitBinary(BinaryTree tree, Void none) {
        TypeKind left = typeOf(tree.getLeftOperand()).getKind();
        TypeKind right = typeOf(tree.getRightOperand()).getKind();
        holds(tree, "rules 6 and 10: only numbers and truths are compared and joined: " + tree,
                left.isPrimitive() && right.isPrimitive());
        if (tree.getKind() == Tree.Kind.DIVIDE || tree.getKind() == Tree.Kind.REMAINDER) {
            divisor(tree, tree.getRightOperand());
        }
        return super.visitBinary(tree, none);
    }

    @Override
    public Void visitCompoundAssignment(CompoundAssignmentTree tree, Void none) {
        if (tree.getKind() == Tree.Kind.DIVIDE_ASSIGNMENT || tree.getKind() == Tree.Kind.REMAINDER_ASSIGNMENT) {
            divisor(tree, tree.getExpression());
        }
        return super.visitCompoundAssignment(tree, none);
    }

    /** A constant, or a name that the method compares with 0 ahead of it. */
    private void divisor(Tree at, ExpressionTree by) {
        TreePath method = methodAround();
        String ahead = method == null ? "" : method.getLeaf().toString().split(Pattern.quote(at.toString()))[0];
        boolean compared = ahead.matches("(?s).*\\b" + Pattern.quote(by.toString()) + " (>|<=|!=) 0.*");
        holds(at, "rule 7: the divisor " + by + " is looked at before it divides", isConstant(by) || compared);
    }

    private boolean isConstant(ExpressionTree by) {
        Object value = null;
        if (by instanceof LiteralTree number) {
            value = number.getValue();
        } else if (trees.getElement(new TreePath(getCurrentPath(), by)) instanceof VariableElement variable) {
            value = variable.getConstantValue();
        }
        return value instanceof Number number && number.longValue() != 0;
    }

    private TreePath methodAround() {
        TreePath path = getCurrentPath();
        while (path != null && !(path.getLeaf() instanceof MethodTree)) {
            path = path.getParentPath();
        }
        return path;
    }

    // ---- rules 4 and 12: what is called and made

    @Override
    public Void visitMethodInvocation(MethodInvocationTree tree, Void none) {
        ExecutableElement called = (ExecutableElement) here();
        TreePath caller = methodAround();
        if (isOwn(called)) {
            holds(tree, "rule 12: nothing is called while fields are made", caller != null);
        } else {
            String name = called.getEnclosingElement() + "." + called.getSimpleName();
            holds(tree, "rule 4: the library's " + name + " may be called", LIBRARY.contains(name));
        }
        if (isOwn(called) && caller != null) {
            Set<ExecutableElement> calls = callsOf.computeIfAbsent(
                    (ExecutableElement) trees.getElement(caller), one -> new LinkedHashSet<>());
            calls.add(called);
            if (!tree.getMethodSelect().toString().startsWith("super.")) {
                calls.addAll(putFor(called));
            }
        }
        return super.visitMethodInvocation(tree, none);
    }

    /** The methods of own classes that may be meant by a call of this one. */
    private List<ExecutableElement> putFor(ExecutableElement called) {
        return methods.stream()
                .filter(one -> elements.overrides(one, called, (TypeElement) one.getEnclosingElement())).toList();
    }

    @Override
    public Void visitNewClass(NewClassTree tree, Void none) {
        holds(tree, "rule 12: objects are made with the object alone", methodAround() == null);
        holds(tree, "rule 2: none is of a class without a name", tree.getClassBody() == null);
        holds(tree, "rule 4: it is of an own class", isOwn(here()));
        return super.visitNewClass(tree, none);
    }

    @Override
    public Void visitNewArray(NewArrayTree tree, Void none) {
        holds(tree, "rule 12: rows are made with the object alone", methodAround() == null);
        holds(tree, "rule 3: they have two dimensions at most", tree.getDimensions().size() <= 2);
        return super.visitNewArray(tree, none);
    }

    // ---- rule 9: loops

    @Override
    public Void visitForLoop(ForLoopTree tree, Void none) {
        String name = tree.getInitializer().size() == 1 && tree.getInitializer().get(0) instanceof VariableTree counter
                ? counter.getName().toString() : "none";
        holds(tree, "rule 9: a counter goes up to a bound", tree.getCondition() != null
                && tree.getCondition().toString().startsWith(name + " <") && tree.getUpdate().size() == 1
                && tree.getUpdate().get(0).toString().matches(name + "(\\+\\+| \\+= GROUP);?"));
        holds(tree, "rule 9: nothing else moves the counter", !tree.getStatement().toString()
                .matches("(?s).*(?<![\\w.])" + name + "(\\+\\+|--| [-+*/]?= ).*"));
        return super.visitForLoop(tree, none);
    }

    @Override
    public Void visitEnhancedForLoop(EnhancedForLoopTree tree, Void none) {
        holds(tree, "rule 10: it goes over an array", typeOf(tree.getExpression()).getKind() == TypeKind.ARRAY);
        return super.visitEnhancedForLoop(tree, none);
    }

    // ---- what there is none of

    @Override
    public Void scan(Tree tree, Void none) {
        if (tree != null && RULED_OUT.containsKey(tree.getKind())) {
            holds(tree, RULED_OUT.get(tree.getKind()), false);
        }
        return super.scan(tree, none);
    }

    // ---- rules 8 and 11: recursion, and how deep calls go

    private void depths() {
        for (ExecutableElement method : methods) {
            due.promise("ShameYards.java, " + method.getEnclosingElement() + "." + method);
            int depth = depth(method, new HashSet<>());
            due.holds("rule 11: calls go at most eight deep: " + depth, depth <= MOST_DEEP);
            boolean again = callsOf.getOrDefault(method, Set.of()).contains(method);
            due.holds("rule 8: who calls himself is private and static", !again
                    || method.getModifiers().containsAll(Set.of(Modifier.PRIVATE, Modifier.STATIC)));
        }
        due.holds("methods are found: " + methods.size(), methods.size() > 80);
    }

    /** How many calls stand open at once at most, one that calls itself counted once. */
    private int depth(ExecutableElement method, Set<ExecutableElement> open) {
        open.add(method);
        int below = 0;
        for (ExecutableElement called : callsOf.getOrDefault(method, Set.of())) {
            boolean again = open.contains(called);
            due.holds("rule 8: no two methods call one another: " + called, !again || called.equals(method));
            below = Math.max(below, again ? 0 : depth(called, open));
        }
        open.remove(method);
        return below + 1;
    }
}
