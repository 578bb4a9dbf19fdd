import com.sun.source.tree.AssertTree;
import com.sun.source.tree.BinaryTree;
import com.sun.source.tree.BlockTree;
import com.sun.source.tree.ClassTree;
import com.sun.source.tree.CompilationUnitTree;
import com.sun.source.tree.CompoundAssignmentTree;
import com.sun.source.tree.ConditionalExpressionTree;
import com.sun.source.tree.DoWhileLoopTree;
import com.sun.source.tree.ExpressionTree;
import com.sun.source.tree.ForLoopTree;
import com.sun.source.tree.ImportTree;
import com.sun.source.tree.LambdaExpressionTree;
import com.sun.source.tree.LiteralTree;
import com.sun.source.tree.MemberReferenceTree;
import com.sun.source.tree.MethodInvocationTree;
import com.sun.source.tree.MethodTree;
import com.sun.source.tree.NewClassTree;
import com.sun.source.tree.SynchronizedTree;
import com.sun.source.tree.ThrowTree;
import com.sun.source.tree.Tree;
import com.sun.source.tree.TryTree;
import com.sun.source.tree.TypeCastTree;
import com.sun.source.tree.VariableTree;
import com.sun.source.tree.WhileLoopTree;
import com.sun.source.util.JavacTask;
import com.sun.source.util.SourcePositions;
import com.sun.source.util.TreePath;
import com.sun.source.util.TreePathScanner;
import com.sun.source.util.Trees;
import java.io.IOException;
import java.nio.file.Path;
import java.util.ArrayList;
import java.util.HashMap;
import java.util.HashSet;
import java.util.LinkedHashMap;
import java.util.List;
import java.util.Map;
import java.util.Set;
import javax.lang.model.element.Element;
import javax.lang.model.element.ExecutableElement;
import javax.lang.model.element.Modifier;
import javax.lang.model.type.TypeMirror;
import javax.tools.JavaCompiler;
import javax.tools.StandardJavaFileManager;
import javax.tools.ToolProvider;

/** The rules of LANGUAGE.md that can be seen in the source, as the compiler reads it. */
public final class LanguageTest extends TreePathScanner<Void, Void> {
    private static final int MOST_PARAMETERS = 7;
    private static final int MOST_LINES = 60;
    private static final int MOST_DEPTH = 8;
    private static final int MOST_CLASSES = 12;
    private static final int MOST_FIELDS = 20;
    /** Of rule 4 what a class of numbers can need; a call of another one is looked at by whoever adds it here. */
    private static final Set<String> LIBRARY = Set.of("java.util.Arrays.fill", "java.util.Arrays.copyOf",
        "java.util.Arrays.copyOfRange", "java.lang.System.arraycopy", "java.lang.Math.max", "java.lang.Math.min",
        "java.lang.Math.abs", "java.lang.Math.floorDiv", "java.lang.Math.floorMod", "java.lang.Integer.bitCount",
        "java.lang.Integer.compare", "java.lang.Object.<init>");
    private static final Set<String> NUMBERS = Set.of("int", "long", "short", "byte", "char", "boolean", "int[]",
        "long[]", "short[]", "byte[]", "char[]", "boolean[]", "int[][]", "long[][]");
    private static final Set<String> CONSTANTS = Set.of("int", "long", "boolean", "char", "java.lang.String");

    private final Trees trees;
    private final CompilationUnitTree unit;
    private final SourcePositions places;
    private final Map<Element, Set<Element>> calls = new LinkedHashMap<>();
    private int classes;

    private LanguageTest(Trees trees, CompilationUnitTree unit) {
        this.trees = trees;
        this.unit = unit;
        places = trees.getSourcePositions();
    }

    public static void main(String[] args) throws IOException {
        Path file = Path.of(args.length > 0 ? args[0] : ".").resolve("src/main/java/HullRegister.java");
        JavaCompiler compiler = ToolProvider.getSystemJavaCompiler();
        try (StandardJavaFileManager files = compiler.getStandardFileManager(null, null, null)) {
            JavacTask task = (JavacTask) compiler.getTask(null, files, null,
                    List.of("--release", "17", "-proc:none"), null, files.getJavaFileObjects(file));
            for (CompilationUnitTree unit : task.parse()) {
                task.analyze();
                LanguageTest test = new LanguageTest(Trees.instance(task), unit);
                test.scan(unit, null);
                test.endOfUnit();
            }
        }
        Check.end();
    }

    private void endOfUnit() {
        Check.holds("there is no package line", unit.getPackage() == null);
        Check.due("classes of the file itself", unit.getTypeDecls().size(), 1);
        Check.holds("some twelve classes: " + classes, 1 <= classes && classes <= MOST_CLASSES);
        Map<Element, Integer> known = new HashMap<>();
        for (Element method : calls.keySet()) {
            int depth = depthFrom(method, known);
            Check.holds("calls go at most eight deep: " + depth + " from " + method, depth <= MOST_DEPTH);
        }
    }

    private void tell(String rule, Tree tree, boolean held) {
        if (!held) {
            long line = unit.getLineMap().getLineNumber(places.getStartPosition(unit, tree));
            Check.holds("rule " + rule + ", line " + line + ": " + tree.toString().strip().split("\n")[0], false);
        }
    }

    private Element elementOf(Tree tree) {
        return trees.getElement(new TreePath(getCurrentPath(), tree));
    }

    private static boolean isOwn(Element element) {
        for (Element e = element; e != null; e = e.getEnclosingElement()) {
            if (e.getSimpleName().contentEquals("HullRegister")) {
                return true;
            }
        }
        return false;
    }

    // ---- rules 1, 2, 5, 11: classes, fields, methods

    @Override
    public Void visitClass(ClassTree tree, Void none) {
        classes++;
        Tree around = getCurrentPath().getParentPath().getLeaf();
        Set<Modifier> modifiers = tree.getModifiers().getFlags();
        if (around instanceof ClassTree) {
            tell("2: a class inside is static", tree, modifiers.contains(Modifier.STATIC));
            tell("1: a class inside isn't public or protected", tree,
                    !modifiers.contains(Modifier.PUBLIC) && !modifiers.contains(Modifier.PROTECTED));
        } else {
            tell("2: no local or anonymous class", tree, around instanceof CompilationUnitTree);
        }
        int fields = 0;
        for (Tree member : tree.getMembers()) {
            tell("5: no initialiser block", member, !(member instanceof BlockTree));
            if (member instanceof VariableTree field) {
                fields += isStatic(field) ? 0 : 1;
                visitField(field);
            }
        }
        tell("11: some twenty fields, " + fields, tree, fields <= MOST_FIELDS);
        return super.visitClass(tree, none);
    }

    private static boolean isStatic(VariableTree field) {
        return field.getModifiers().getFlags().contains(Modifier.STATIC);
    }

    private void visitField(VariableTree field) {
        if (isStatic(field)) {
            tell("5: static fields are final", field, field.getModifiers().getFlags().contains(Modifier.FINAL));
            tell("5: static fields are constants", field, CONSTANTS.contains(elementOf(field).asType().toString()));
        }
    }

    @Override
    public Void visitVariable(VariableTree tree, Void none) {
        Element element = trees.getElement(getCurrentPath());
        tell("3: the types", tree, isTypeOfRule3(element.asType()));
        return super.visitVariable(tree, none);
    }

    private static boolean isTypeOfRule3(TypeMirror type) {
        String name = type.toString();
        return NUMBERS.contains(name) || CONSTANTS.contains(name) || name.startsWith("HullRegister.")
                && !name.contains("[][]");
    }

    @Override
    public Void visitMethod(MethodTree tree, Void none) {
        calls.computeIfAbsent(trees.getElement(getCurrentPath()), key -> new HashSet<>());
        tell("11: at most seven parameters", tree, tree.getParameters().size() <= MOST_PARAMETERS);
        tell("6: nothing is thrown", tree, tree.getThrows().isEmpty());
        tell("6: no equals, hashCode or toString", tree,
                !Set.of("equals", "hashCode", "toString").contains(tree.getName().toString()));
        long lines = lineOf(places.getEndPosition(unit, tree)) - lineOf(places.getStartPosition(unit, tree)) + 1;
        tell("11: some sixty lines, " + lines, tree, lines <= MOST_LINES);
        return super.visitMethod(tree, none);
    }

    private long lineOf(long place) {
        return unit.getLineMap().getLineNumber(Math.max(0, place));
    }

    @Override
    public Void visitImport(ImportTree tree, Void none) {
        tell("4: imports", tree, !tree.isStatic() && Set.of("java.util.Arrays", "java.util.ArrayList", "java.util.List")
                .contains(tree.getQualifiedIdentifier().toString()));
        return super.visitImport(tree, none);
    }

    // ---- rules 2, 6: what isn't there

    @Override
    public Void visitThrow(ThrowTree tree, Void none) {
        tell("6: no throw", tree, false);
        return super.visitThrow(tree, none);
    }

    @Override
    public Void visitTry(TryTree tree, Void none) {
        tell("6: no try", tree, false);
        return super.visitTry(tree, none);
    }

    @Override
    public Void visitSynchronized(SynchronizedTree tree, Void none) {
        tell("6: no synchronized", tree, false);
        return super.visitSynchronized(tree, none);
    }

    @Override
    public Void visitAssert(AssertTree tree, Void none) {
        tell("6: no assert", tree, false);
        return super.visitAssert(tree, none);
    }

    @Override
    public Void visitLambdaExpression(LambdaExpressionTree tree, Void none) {
        tell("2: no lambda", tree, false);
        return super.visitLambdaExpression(tree, none);
    }

    @Override
    public Void visitMemberReference(MemberReferenceTree tree, Void none) {
        tell("2: no method reference", tree, false);
        return super.visitMemberReference(tree, none);
    }

    @Override
    public Void visitTypeCast(TypeCastTree tree, Void none) {
        tell("6: casts among numbers alone", tree, NUMBERS.contains(tree.getType().toString()));
        return super.visitTypeCast(tree, none);
    }

    // ---- rules 7, 9, 10: divisors, loops, texts

    @Override
    public Void visitBinary(BinaryTree tree, Void none) {
        boolean divides = tree.getKind() == Tree.Kind.DIVIDE || tree.getKind() == Tree.Kind.REMAINDER;
        if (divides) {
            tell("7: a divisor is looked at", tree, isNeverZero(tree.getRightOperand()) || isLookedAt(tree));
        }
        TypeMirror type = trees.getTypeMirror(getCurrentPath());
        tell("10: no texts joined by +", tree, !type.toString().equals("java.lang.String"));
        return super.visitBinary(tree, none);
    }

    @Override
    public Void visitCompoundAssignment(CompoundAssignmentTree tree, Void none) {
        boolean divides = tree.getKind() == Tree.Kind.DIVIDE_ASSIGNMENT
                || tree.getKind() == Tree.Kind.REMAINDER_ASSIGNMENT;
        tell("7: a divisor is looked at", tree, !divides || isNeverZero(tree.getExpression()));
        return super.visitCompoundAssignment(tree, none);
    }

    /** A number that is written out, a constant, or a product of such. */
    private static boolean isNeverZero(ExpressionTree divisor) {
        String text = divisor.toString();
        if (divisor instanceof LiteralTree) {
            return !text.equals("0");
        }
        return text.replaceAll("[()* ]", "").matches("[A-Z_]+");
    }

    /** As in: by == 0 ? 0 : n / by. */
    private boolean isLookedAt(BinaryTree division) {
        Tree around = getCurrentPath().getParentPath().getLeaf();
        return around instanceof ConditionalExpressionTree choice && choice.getFalseExpression() == division
                && choice.getCondition().toString().equals(division.getRightOperand() + " == 0");
    }

    @Override
    public Void visitForLoop(ForLoopTree tree, Void none) {
        tell("9: a loop has an end", tree, isEnd(tree.getCondition()) && !tree.getUpdate().isEmpty());
        return super.visitForLoop(tree, none);
    }

    @Override
    public Void visitWhileLoop(WhileLoopTree tree, Void none) {
        tell("9: a loop has an end", tree, isEnd(tree.getCondition()));
        return super.visitWhileLoop(tree, none);
    }

    @Override
    public Void visitDoWhileLoop(DoWhileLoopTree tree, Void none) {
        tell("9: a loop has an end", tree, isEnd(tree.getCondition()));
        return super.visitDoWhileLoop(tree, none);
    }

    private static boolean isEnd(ExpressionTree condition) {
        return condition != null && condition.toString().matches("(?s).*[<>].*");
    }

    // ---- rules 4, 11: what is called, and how deep

    @Override
    public Void visitMethodInvocation(MethodInvocationTree tree, Void none) {
        called(tree, trees.getElement(getCurrentPath()));
        return super.visitMethodInvocation(tree, none);
    }

    @Override
    public Void visitNewClass(NewClassTree tree, Void none) {
        tell("2: no anonymous class", tree, tree.getClassBody() == null);
        called(tree, trees.getElement(getCurrentPath()));
        return super.visitNewClass(tree, none);
    }

    private void called(Tree tree, Element element) {
        tell("4: what is called is known", tree, element instanceof ExecutableElement);
        if (!(element instanceof ExecutableElement)) {
            return;
        }
        if (!isOwn(element)) {
            String name = element.getEnclosingElement() + "." + element.getSimpleName();
            tell("4: the library, " + name, tree, LIBRARY.contains(name));
        }
        TreePath path = getCurrentPath();
        while (path != null && !(path.getLeaf() instanceof MethodTree)) {
            path = path.getParentPath();
        }
        // super() of each constructor is the machine's own.
        if (path != null && !element.getEnclosingElement().toString().equals("java.lang.Object")) {
            calls.computeIfAbsent(trees.getElement(path), key -> new HashSet<>()).add(element);
        }
    }

    private Set<Element> reachedFrom(Element method) {
        Set<Element> seen = new HashSet<>();
        List<Element> open = new ArrayList<>(calls.getOrDefault(method, Set.of()));
        while (!open.isEmpty()) {
            Element next = open.remove(open.size() - 1);
            if (seen.add(next)) {
                open.addAll(calls.getOrDefault(next, Set.of()));
            }
        }
        return seen;
    }

    /** How many calls stand open at once from a method on, each method of a recursion counted once. */
    private int depthFrom(Element method, Map<Element, Integer> known) {
        if (known.containsKey(method)) {
            return known.get(method);
        }
        Set<Element> ring = new HashSet<>(Set.of(method));
        for (Element e : reachedFrom(method)) {
            if (reachedFrom(e).contains(method)) {
                ring.add(e);
            }
        }
        int deepest = 0;
        for (Element e : ring) {
            tell("8: recursion is of private methods", trees.getTree(e),
                    !reachedFrom(e).contains(e) || e.getModifiers().contains(Modifier.PRIVATE));
            for (Element next : calls.getOrDefault(e, Set.of())) {
                deepest = Math.max(deepest, ring.contains(next) ? 0 : depthFrom(next, known));
            }
        }
        known.put(method, ring.size() + deepest);
        return ring.size() + deepest;
    }
}
