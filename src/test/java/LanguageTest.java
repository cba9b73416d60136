import com.sun.source.tree.AssertTree;
import com.sun.source.tree.BinaryTree;
import com.sun.source.tree.BlockTree;
import com.sun.source.tree.ClassTree;
import com.sun.source.tree.CompilationUnitTree;
import com.sun.source.tree.DoWhileLoopTree;
import com.sun.source.tree.ExpressionTree;
import com.sun.source.tree.ForLoopTree;
import com.sun.source.tree.ImportTree;
import com.sun.source.tree.LambdaExpressionTree;
import com.sun.source.tree.LiteralTree;
import com.sun.source.tree.MemberReferenceTree;
import com.sun.source.tree.MethodInvocationTree;
import com.sun.source.tree.MethodTree;
import com.sun.source.tree.NewArrayTree;
import com.sun.source.tree.NewClassTree;
import com.sun.source.tree.SynchronizedTree;
import com.sun.source.tree.ThrowTree;
import com.sun.source.tree.Tree;
import com.sun.source.tree.TryTree;
import com.sun.source.tree.VariableTree;
import com.sun.source.tree.WhileLoopTree;
import com.sun.source.util.JavacTask;
import com.sun.source.util.TreePath;
import com.sun.source.util.TreePathScanner;
import com.sun.source.util.TreeScanner;
import com.sun.source.util.Trees;
import java.io.IOException;
import java.nio.file.Path;
import java.util.ArrayList;
import java.util.HashSet;
import java.util.List;
import java.util.Map;
import java.util.Set;
import java.util.TreeMap;
import java.util.TreeSet;
import javax.lang.model.element.Element;
import javax.lang.model.element.ElementKind;
import javax.lang.model.element.Modifier;
import javax.lang.model.type.ArrayType;
import javax.lang.model.type.TypeKind;
import javax.lang.model.type.TypeMirror;
import javax.tools.JavaCompiler;
import javax.tools.StandardJavaFileManager;
import javax.tools.ToolProvider;

/**
 * The source keeps to the rules of ../shared/LANGUAGE.md, as far as they can be seen from it; a name begins with the
 * rule's number. The test allows only what the class needs: more may be added here once the rules allow it.
 */
public final class LanguageTest extends TreePathScanner<Void, Void> {
    private static final Path SOURCE = Path.of("src/main/java/BitLoom.java");
    private static final Set<String> LIBRARY = Set.of("String.length", "String.charAt", "String.indexOf", "Integer.compare",
            "Integer.bitCount", "Math.max", "Math.min");
    private static final Set<String> EXCEPTIONS = Set.of("IllegalStateException", "IllegalArgumentException",
            "IndexOutOfBoundsException", "NoSuchElementException");
    private static final Set<TypeKind> NUMBERS = Set.of(TypeKind.INT, TypeKind.LONG, TypeKind.CHAR, TypeKind.BOOLEAN);
    private static final Set<Tree.Kind> BOUNDS = Set.of(Tree.Kind.LESS_THAN, Tree.Kind.LESS_THAN_EQUAL,
            Tree.Kind.GREATER_THAN, Tree.Kind.GREATER_THAN_EQUAL);
    private static final Set<String> READS_CONDITIONS = Set.of("Statement.readCondition", "Statement.readClause", "Statement.readOne");
    private static final int MOST_PARAMETERS = 7;
    private static final int MOST_LINES = 60;
    private static final int MOST_CLASSES = 12;
    private static final int MOST_FIELDS = 20;
    private static final int DEEPEST = 8;

    private final CompilationUnitTree unit;
    private final Trees trees;
    private final Map<String, Set<String>> callees = new TreeMap<>();
    private final Set<String> publicNames = new HashSet<>();
    private final Set<String> privateNames = new HashSet<>();
    private int classes = 0;

    private LanguageTest(CompilationUnitTree unit, Trees trees) {
        this.unit = unit;
        this.trees = trees;
    }

    public static void main(String[] args) throws IOException {
        JavaCompiler compiler = ToolProvider.getSystemJavaCompiler();
        try (StandardJavaFileManager files = compiler.getStandardFileManager(null, null, null)) {
            JavacTask task = (JavacTask) compiler.getTask(null, files, null, List.of("-proc:none"), null, files.getJavaFileObjects(SOURCE));
            CompilationUnitTree unit = task.parse().iterator().next();
            task.analyze();
            LanguageTest test = new LanguageTest(unit, Trees.instance(task));
            test.scan(unit, null);
            test.looksAtTheWhole();
        }
        Check.end();
    }

    private void due(String rule, Object want, Object got) {
        Check.due("rule " + rule, want, got);
    }

    private void isNot(String rule, Tree tree) {
        due(rule, "none", "line " + lineOf(tree));
    }

    private long lineOf(Tree tree) {
        return unit.getLineMap().getLineNumber(trees.getSourcePositions().getStartPosition(unit, tree));
    }

    private long linesOf(Tree tree) {
        return unit.getLineMap().getLineNumber(trees.getSourcePositions().getEndPosition(unit, tree)) - lineOf(tree) + 1;
    }

    private void looksAtTheWhole() {
        due("1: classes of the file", 1, unit.getTypeDecls().size());
        due("1: package", null, unit.getPackage());
        privateNames.retainAll(publicNames);
        due("1: private methods with the name of a public one", Set.of(), privateNames);
        due("11: some twelve classes", true, classes <= MOST_CLASSES);
        Set<String> recursive = new TreeSet<>();
        for (String method : callees.keySet()) {
            if (reachable(method).contains(method)) {
                recursive.add(method);
            }
        }
        due("8: only conditions are read by recursion", READS_CONDITIONS, recursive);
        for (String method : recursive.equals(READS_CONDITIONS) ? callees.keySet() : Set.<String>of()) {
            due("11: at most eight deep: " + method, true, depth(method) <= DEEPEST);
        }
    }

    private Set<String> reachable(String method) {
        Set<String> found = new TreeSet<>();
        List<String> open = new ArrayList<>(callees.getOrDefault(method, Set.of()));
        while (!open.isEmpty()) {
            String next = open.remove(open.size() - 1);
            if (found.add(next)) {
                open.addAll(callees.getOrDefault(next, Set.of()));
            }
        }
        return found;
    }

    /** How many calls stand open at once, those of the recursion as one. */
    private int depth(String method) {
        Set<String> next = new TreeSet<>();
        for (String one : READS_CONDITIONS.contains(method) ? READS_CONDITIONS : Set.of(method)) {
            next.addAll(callees.getOrDefault(one, Set.of()));
        }
        if (READS_CONDITIONS.contains(method)) {
            next.removeAll(READS_CONDITIONS);
        }
        int deepest = 0;
        for (String callee : next) {
            deepest = Math.max(deepest, depth(callee));
        }
        return deepest + 1;
    }

    private static String nameOf(Element method) {
        return method.getEnclosingElement().getSimpleName() + "." + method.getSimpleName();
    }

    private boolean isOwn(Element element) {
        return element.toString().startsWith("BitLoom") || element.getEnclosingElement().toString().startsWith("BitLoom");
    }

    private MethodTree methodAround() {
        for (TreePath path = getCurrentPath(); path != null; path = path.getParentPath()) {
            if (path.getLeaf() instanceof MethodTree) {
                return (MethodTree) path.getLeaf();
            }
        }
        return null;
    }

    private static boolean isConstructor(MethodTree method) {
        return method != null && method.getReturnType() == null;
    }

    @Override
    public Void visitImport(ImportTree tree, Void none) {
        due("4: what is imported", "java.util.NoSuchElementException", tree.getQualifiedIdentifier().toString());
        return super.visitImport(tree, none);
    }

    @Override
    public Void visitClass(ClassTree tree, Void none) {
        classes++;
        Element element = trees.getElement(getCurrentPath());
        Set<Modifier> modifiers = element.getModifiers();
        ElementKind around = element.getEnclosingElement().getKind();
        if (element.getSimpleName().contentEquals("BitLoom")) {
            due("1: the class", Set.of(Modifier.PUBLIC, Modifier.FINAL), modifiers);
        } else {
            due("2: a class inside is in the class itself: " + element, ElementKind.CLASS, around);
            due("1: it is static: " + element, true, modifiers.contains(Modifier.STATIC));
            due("1: it is not to be seen: " + element, false, modifiers.contains(Modifier.PUBLIC) || modifiers.contains(Modifier.PROTECTED));
        }
        long fields = tree.getMembers().stream().filter(m -> m instanceof VariableTree)
                .filter(m -> !((VariableTree) m).getModifiers().getFlags().contains(Modifier.STATIC)).count();
        due("11: some twenty fields: " + element, true, fields <= MOST_FIELDS);
        for (Tree member : tree.getMembers()) {
            if (member instanceof BlockTree) {
                isNot("5: an initialiser block", member);
            }
        }
        return super.visitClass(tree, none);
    }

    @Override
    public Void visitVariable(VariableTree tree, Void none) {
        Element element = trees.getElement(getCurrentPath());
        due("3: the type of " + element, true, isAllowed(element.asType()));
        Set<Modifier> modifiers = element.getModifiers();
        if (element.getKind() == ElementKind.FIELD && modifiers.contains(Modifier.STATIC)) {
            due("5: final: " + element, true, modifiers.contains(Modifier.FINAL));
        }
        return super.visitVariable(tree, none);
    }

    private boolean isAllowed(TypeMirror type) {
        if (type instanceof ArrayType) {
            TypeMirror element = ((ArrayType) type).getComponentType();
            return element.getKind() != TypeKind.ARRAY && isAllowed(element);
        }
        return NUMBERS.contains(type.getKind()) || type.toString().equals("java.lang.String") || type.toString().startsWith("BitLoom");
    }

    @Override
    public Void visitMethod(MethodTree tree, Void none) {
        Element element = trees.getElement(getCurrentPath());
        due("11: at most seven parameters: " + element, true, tree.getParameters().size() <= MOST_PARAMETERS);
        due("11: some sixty lines: " + element, true, linesOf(tree) <= MOST_LINES);
        if (element.getEnclosingElement().getSimpleName().contentEquals("BitLoom")) {
            (element.getModifiers().contains(Modifier.PUBLIC) ? publicNames : privateNames).add(tree.getName().toString());
        }
        callees.computeIfAbsent(nameOf(element), name -> new TreeSet<>());
        return super.visitMethod(tree, none);
    }

    @Override
    public Void visitMethodInvocation(MethodInvocationTree tree, Void none) {
        Element called = trees.getElement(getCurrentPath());
        MethodTree caller = methodAround();
        if (called.getKind() == ElementKind.METHOD) {
            if (isOwn(called)) {
                calls(caller, called);
            } else {
                due("4: in line " + lineOf(tree) + " only the library that is listed", true, LIBRARY.contains(nameOf(called)));
            }
        }
        return super.visitMethodInvocation(tree, none);
    }

    private void calls(MethodTree caller, Element called) {
        if (caller == null) {
            due("5: an enum's values() kept once", "values", called.getSimpleName().toString());
        } else {
            Element from = trees.getElement(trees.getPath(unit, caller));
            callees.computeIfAbsent(nameOf(from), name -> new TreeSet<>()).add(nameOf(called));
            due("12: values() is no call of a method", false, called.getSimpleName().contentEquals("values"));
            due("12: a constructor calls no method", false, isConstructor(caller));
        }
    }

    @Override
    public Void visitNewClass(NewClassTree tree, Void none) {
        MethodTree method = methodAround();
        boolean thrown = getCurrentPath().getParentPath().getLeaf() instanceof ThrowTree;
        boolean enumConstant = method == null;
        due("12: in line " + lineOf(tree) + " objects are made in constructors", true, thrown || enumConstant || isConstructor(method));
        if (tree.getClassBody() != null) {
            isNot("2: a class without a name", tree);
        }
        return super.visitNewClass(tree, none);
    }

    @Override
    public Void visitNewArray(NewArrayTree tree, Void none) {
        due("12: in line " + lineOf(tree) + " rows are made in constructors", true, isConstructor(methodAround()));
        return super.visitNewArray(tree, none);
    }

    @Override
    public Void visitThrow(ThrowTree tree, Void none) {
        ExpressionTree thrown = tree.getExpression();
        boolean isNew = thrown instanceof NewClassTree;
        due("6: in line " + lineOf(tree) + " throw new", true, isNew);
        if (isNew) {
            NewClassTree made = (NewClassTree) thrown;
            due("6: in line " + lineOf(tree) + " one of these", true, EXCEPTIONS.contains(made.getIdentifier().toString()));
            due("6: in line " + lineOf(tree) + " a written text", true, made.getArguments().stream().allMatch(a -> a instanceof LiteralTree));
        }
        due("6: in line " + lineOf(tree) + " no throw in a constructor", false, isConstructor(methodAround()));
        return super.visitThrow(tree, none);
    }

    @Override
    public Void visitWhileLoop(WhileLoopTree tree, Void none) {
        hasBound(tree, tree.getCondition());
        return super.visitWhileLoop(tree, none);
    }

    @Override
    public Void visitForLoop(ForLoopTree tree, Void none) {
        hasBound(tree, tree.getCondition());
        return super.visitForLoop(tree, none);
    }

    @Override
    public Void visitDoWhileLoop(DoWhileLoopTree tree, Void none) {
        hasBound(tree, tree.getCondition());
        return super.visitDoWhileLoop(tree, none);
    }

    private void hasBound(Tree loop, ExpressionTree condition) {
        boolean[] found = {false};
        new TreeScanner<Void, Void>() {
            @Override
            public Void scan(Tree tree, Void none) {
                found[0] |= tree != null && BOUNDS.contains(tree.getKind());
                return super.scan(tree, none);
            }
        }.scan(condition, null);
        due("9: in line " + lineOf(loop) + " a bound", true, found[0]);
    }

    @Override
    public Void visitBinary(BinaryTree tree, Void none) {
        TypeMirror type = trees.getTypeMirror(getCurrentPath());
        due("10: in line " + lineOf(tree) + " numbers, not texts", true, NUMBERS.contains(type.getKind()));
        return super.visitBinary(tree, none);
    }

    @Override
    public Void visitLambdaExpression(LambdaExpressionTree tree, Void none) {
        isNot("2: a lambda", tree);
        return super.visitLambdaExpression(tree, none);
    }

    @Override
    public Void visitMemberReference(MemberReferenceTree tree, Void none) {
        isNot("2: a method reference", tree);
        return super.visitMemberReference(tree, none);
    }

    @Override
    public Void visitTry(TryTree tree, Void none) {
        isNot("6: a try, of which the class has no need", tree);
        return super.visitTry(tree, none);
    }

    @Override
    public Void visitSynchronized(SynchronizedTree tree, Void none) {
        isNot("6: synchronized", tree);
        return super.visitSynchronized(tree, none);
    }

    @Override
    public Void visitAssert(AssertTree tree, Void none) {
        isNot("6: assert", tree);
        return super.visitAssert(tree, none);
    }
}
