import com.sun.source.tree.AssertTree;
import com.sun.source.tree.BinaryTree;
import com.sun.source.tree.ClassTree;
import com.sun.source.tree.CompilationUnitTree;
import com.sun.source.tree.DoWhileLoopTree;
import com.sun.source.tree.EnhancedForLoopTree;
import com.sun.source.tree.ExpressionTree;
import com.sun.source.tree.ForLoopTree;
import com.sun.source.tree.ImportTree;
import com.sun.source.tree.InstanceOfTree;
import com.sun.source.tree.LambdaExpressionTree;
import com.sun.source.tree.LiteralTree;
import com.sun.source.tree.MemberReferenceTree;
import com.sun.source.tree.MethodInvocationTree;
import com.sun.source.tree.MethodTree;
import com.sun.source.tree.NewArrayTree;
import com.sun.source.tree.NewClassTree;
import com.sun.source.tree.SynchronizedTree;
import com.sun.source.tree.ThrowTree;
import com.sun.source.tree.Tree;
import com.sun.source.tree.TryTree;
import com.sun.source.tree.TypeCastTree;
import com.sun.source.tree.VariableTree;
import com.sun.source.tree.WhileLoopTree;
import com.sun.source.util.JavacTask;
import com.sun.source.util.SourcePositions;
import com.sun.source.util.TreePath;
import com.sun.source.util.TreePathScanner;
import com.sun.source.util.Trees;
import java.io.IOException;
import java.util.HashMap;
import java.util.LinkedHashSet;
import java.util.List;
import java.util.Map;
import java.util.Set;
import java.util.TreeSet;
import javax.lang.model.element.Element;
import javax.lang.model.element.ElementKind;
import javax.lang.model.element.Modifier;
import javax.lang.model.element.TypeElement;
import javax.lang.model.type.TypeMirror;
import javax.tools.JavaCompiler;
import javax.tools.StandardJavaFileManager;
import javax.tools.ToolProvider;

/**
 * The rules of LANGUAGE.md, by their numbers, in the compiler's own tree of the class. What the class has no need of
 * (a catch, a list, a lambda ..) is not allowed here at all, even where the rules leave some of it.
 * The face itself is in FaceTest; that no call throws by itself is in AnyCallTest; what is kept is in RoomTest.
 */
public final class RulesTest extends TreePathScanner<Void, Void> {
    private static final Set<String> TYPES = Set.of("int", "long", "short", "byte", "char", "boolean", "void",
        "int[]", "short[]");
    private static final Set<String> LIBRARY = Set.of("java.util.Arrays.fill", "java.lang.System.arraycopy",
        "java.lang.Math.max", "java.lang.Math.min", "java.lang.Math.abs");
    private static final Set<String> EXCEPTIONS = Set.of("IllegalArgumentException", "IllegalStateException",
        "ArithmeticException");

    private final Trees trees;
    private final CompilationUnitTree unit;
    private final Map<Element, Set<Element>> calls = new HashMap<>();
    private final Set<String> publicNames = new TreeSet<>();
    private final Set<String> privateNames = new TreeSet<>();
    private int classes = 0;

    private RulesTest(Trees trees, CompilationUnitTree unit) {
        this.trees = trees;
        this.unit = unit;
    }

    public static void main(String[] args) throws IOException {
        JavaCompiler compiler = ToolProvider.getSystemJavaCompiler();
        try (StandardJavaFileManager files = compiler.getStandardFileManager(null, null, null)) {
            JavacTask task = (JavacTask) compiler.getTask(null, files, null, List.of("-proc:none"), null,
                files.getJavaFileObjects("src/main/java/PoolAssembler.java"));
            CompilationUnitTree unit = task.parse().iterator().next();
            task.analyze();
            RulesTest test = new RulesTest(Trees.instance(task), unit);
            test.scan(unit, null);
            test.wholeClass();
        }
        Check.end();
    }

    private void wholeClass() {
        dueTrue("rule 1: no package line", unit.getPackageName() == null);
        dueTrue("rule 1: one class in the file", unit.getTypeDecls().size() == 1);
        for (String name : publicNames) {
            dueTrue("rule 1: no private method bears the name " + name, !privateNames.contains(name));
        }
        dueTrue("rule 11: at most some twelve classes: " + classes, classes <= 12);
        dueTrue("rules 8 and 11: methods found", calls.size() > 40);
        for (Element method : calls.keySet()) {
            int depth = depthFrom(method, new LinkedHashSet<>());
            dueTrue("rule 11: at most eight calls deep from " + method + ": " + depth, depth <= 8);
        }
    }

    /** How many calls stand open at most, from this method on; one that stands open already is recursion. */
    private int depthFrom(Element method, Set<Element> open) {
        if (!open.add(method)) {
            dueTrue("rule 8: " + method + " comes to itself: " + open, false);
            return 0;
        }
        int deepest = 0;
        for (Element called : calls.getOrDefault(method, Set.of())) {
            deepest = Math.max(deepest, depthFrom(called, open));
        }
        open.remove(method);
        return deepest + 1;
    }

    private static void dueTrue(String what, boolean is) {
        Check.due(what, 1, is ? 1 : 0);
    }

    private void never(String rule, Tree tree) {
        long line = unit.getLineMap().getLineNumber(positions().getStartPosition(unit, tree));
        dueTrue(rule + ", in line " + line, false);
    }

    private SourcePositions positions() {
        return trees.getSourcePositions();
    }

    /** The method, class or field initialiser that this place stands in. */
    private TreePath holder() {
        TreePath path = getCurrentPath();
        while (!isHolder(path)) {
            path = path.getParentPath();
        }
        return path;
    }

    private static boolean isHolder(TreePath path) {
        Tree tree = path.getLeaf();
        return tree instanceof MethodTree || tree instanceof ClassTree || tree instanceof CompilationUnitTree
            || tree instanceof VariableTree && path.getParentPath().getLeaf() instanceof ClassTree;
    }

    private boolean isIn(Class<? extends Tree> kind) {
        for (TreePath path = getCurrentPath(); path != null; path = path.getParentPath()) {
            if (kind.isInstance(path.getLeaf())) {
                return true;
            }
        }
        return false;
    }

    private static boolean isOwn(Element element) {
        Element outer = element;
        while (outer != null && outer.getKind() != ElementKind.PACKAGE) {
            if (outer.getSimpleName().contentEquals("PoolAssembler")) {
                return true;
            }
            outer = outer.getEnclosingElement();
        }
        return false;
    }

    private void dueType(String what, Tree tree) {
        TypeMirror type = trees.getTypeMirror(new TreePath(getCurrentPath(), tree));
        dueTrue("rule 3: the type of " + what + ": " + type,
            TYPES.contains(type.toString()) || type.toString().matches("PoolAssembler(\\.\\w+)?"));
    }

    @Override
    public Void visitImport(ImportTree tree, Void none) {
        dueTrue("rule 4: " + tree, tree.toString().trim().equals("import java.util.Arrays;"));
        return super.visitImport(tree, none);
    }

    @Override
    public Void visitClass(ClassTree tree, Void none) {
        classes++;
        Tree around = getCurrentPath().getParentPath().getLeaf();
        dueTrue("rule 2: " + tree.getSimpleName() + " stands in no method",
            around instanceof ClassTree || around instanceof CompilationUnitTree);
        Set<Modifier> modifiers = tree.getModifiers().getFlags();
        dueTrue("rule 1: " + tree.getSimpleName() + " is the public one, or private and static", around == unit
            ? modifiers.contains(Modifier.PUBLIC) : modifiers.containsAll(Set.of(Modifier.PRIVATE, Modifier.STATIC)));
        int fields = 0;
        for (Tree member : tree.getMembers()) {
            if (member.getKind() == Tree.Kind.BLOCK) {
                never("rule 5: a block outside of methods", member);
            }
            if (member instanceof VariableTree field) {
                fields += field.getModifiers().getFlags().contains(Modifier.STATIC) ? 0 : 1;
            }
        }
        dueTrue("rule 11: at most some twenty fields in " + tree.getSimpleName() + ": " + fields, fields <= 20);
        return super.visitClass(tree, none);
    }

    @Override
    public Void visitVariable(VariableTree tree, Void none) {
        String name = tree.getName().toString();
        dueType(name, tree.getType());
        Set<Modifier> modifiers = tree.getModifiers().getFlags();
        boolean isField = getCurrentPath().getParentPath().getLeaf() instanceof ClassTree;
        if (isField && !name.equals("NONE")) {
            dueTrue("rule 1: " + name + " is private", modifiers.contains(Modifier.PRIVATE));
        }
        if (modifiers.contains(Modifier.STATIC)) {
            dueTrue("rule 5: " + name + " is final", modifiers.contains(Modifier.FINAL));
            dueTrue("rule 5: " + name + " is a constant number: " + tree.getType(),
                Set.of("int", "long", "boolean", "char").contains(tree.getType().toString()));
        }
        return super.visitVariable(tree, none);
    }

    @Override
    public Void visitMethod(MethodTree tree, Void none) {
        Element method = trees.getElement(getCurrentPath());
        calls.putIfAbsent(method, new LinkedHashSet<>());
        boolean isConstructor = method.getKind() == ElementKind.CONSTRUCTOR;
        boolean isPublic = method.getModifiers().contains(Modifier.PUBLIC);
        if (!isConstructor) {
            (isPublic ? publicNames : privateNames).add(tree.getName().toString());
            dueType(tree.getName().toString(), tree.getReturnType());
        }
        boolean isOfTheFace = ((TypeElement) method.getEnclosingElement()).getQualifiedName()
            .contentEquals("PoolAssembler");
        dueTrue("rule 1: " + method + " is public in the face, private elsewhere",
            isPublic ? isOfTheFace : method.getModifiers().contains(Modifier.PRIVATE));
        dueTrue("rule 11: at most seven numbers of " + method, tree.getParameters().size() <= 7);
        long first = unit.getLineMap().getLineNumber(positions().getStartPosition(unit, tree));
        long last = unit.getLineMap().getLineNumber(positions().getEndPosition(unit, tree));
        dueTrue("rule 11: at most some sixty lines in " + method + ": " + (last - first + 1), last - first < 60);
        return super.visitMethod(tree, none);
    }

    @Override
    public Void visitMethodInvocation(MethodInvocationTree tree, Void none) {
        Element called = trees.getElement(getCurrentPath());
        boolean isSuper = tree.getMethodSelect().toString().equals("super");
        if (isOwn(called)) {
            noteCall(called);
        } else if (!isSuper) {
            String name = called.getEnclosingElement() + "." + called.getSimpleName();
            dueTrue("rules 4 and 13: " + name, LIBRARY.contains(name));
        }
        return super.visitMethodInvocation(tree, none);
    }

    private void noteCall(Element called) {
        Element from = trees.getElement(holder());
        if (from.getKind() == ElementKind.METHOD || from.getKind() == ElementKind.CONSTRUCTOR) {
            calls.computeIfAbsent(from, key -> new LinkedHashSet<>()).add(called);
        } else {
            never("rule 12: a field's initialiser calls " + called, getCurrentPath().getLeaf());
        }
    }

    @Override
    public Void visitNewClass(NewClassTree tree, Void none) {
        Element made = trees.getElement(getCurrentPath());
        if (isOwn(made)) {
            noteCall(made);
            dueMadeOnce(tree);
        } else {
            boolean isThrown = getCurrentPath().getParentPath().getLeaf() instanceof ThrowTree;
            dueTrue("rule 4: " + tree, isThrown && EXCEPTIONS.contains(tree.getIdentifier().toString()));
        }
        return super.visitNewClass(tree, none);
    }

    @Override
    public Void visitNewArray(NewArrayTree tree, Void none) {
        dueMadeOnce(tree);
        return super.visitNewArray(tree, none);
    }

    /** All calls of a run live in one room, so that rows and objects are made with the object alone. */
    private void dueMadeOnce(Tree tree) {
        Tree holder = holder().getLeaf();
        boolean isConstructor = holder instanceof MethodTree method && method.getName().contentEquals("<init>");
        dueTrue("rule 12: made in a constructor or a field's initialiser: " + tree,
            isConstructor || holder instanceof VariableTree);
        if (isIn(ForLoopTree.class) || isIn(WhileLoopTree.class)) {
            never("rule 12: made in a loop", tree);
        }
    }

    @Override
    public Void visitThrow(ThrowTree tree, Void none) {
        boolean isNew = tree.getExpression() instanceof NewClassTree thrown && (thrown.getArguments().isEmpty()
            || thrown.getArguments().size() == 1 && thrown.getArguments().get(0).getKind() == Tree.Kind.STRING_LITERAL);
        dueTrue("rule 6: throw new E() or with a written text: " + tree, isNew);
        dueTrue("rule 6: no throw in a constructor",
            holder().getLeaf() instanceof MethodTree method && !method.getName().contentEquals("<init>"));
        return super.visitThrow(tree, none);
    }

    @Override
    public Void visitForLoop(ForLoopTree tree, Void none) {
        boolean isCounted = tree.getInitializer().size() == 1 && tree.getUpdate().size() == 1
            && tree.getInitializer().get(0) instanceof VariableTree;
        dueTrue("rule 9: a counter in " + tree, isCounted);
        if (isCounted) {
            String counter = ((VariableTree) tree.getInitializer().get(0)).getName().toString();
            boolean isBounded = hasBound(tree.getCondition(), counter);
            dueTrue("rule 9: a bound of " + counter + ": " + tree.getCondition(), isBounded);
            String update = tree.getUpdate().get(0).toString().replaceAll("[;\\s]", "");
            boolean isDown = String.valueOf(tree.getCondition()).matches(counter + " >=? .*");
            dueTrue("rule 9: a step of " + counter + ": " + update, update.equals(counter + (isDown ? "--" : "++")));
            dueTrue("rule 9: no other step of " + counter,
                !tree.getStatement().toString().matches("(?s).*\\b" + counter + "(\\+\\+|--| [-+*/]?= ).*"));
        }
        return super.visitForLoop(tree, none);
    }

    @Override
    public Void visitWhileLoop(WhileLoopTree tree, Void none) {
        String body = tree.getStatement().toString().replaceAll("[{};\\s]", "");
        dueTrue("rule 9: a while loop is a step of a counter with a bound: " + tree,
            body.matches("\\w+\\+\\+") && hasBound(tree.getCondition(), body.replace("+", "")));
        return super.visitWhileLoop(tree, none);
    }

    /** Whether the condition, or one of those that it joins by &&, holds the counter against a bound. */
    private static boolean hasBound(Tree condition, String counter) {
        if (condition == null) {
            return false;
        }
        String text = condition.toString();
        String bare = text.startsWith("(") && text.endsWith(")") ? text.substring(1, text.length() - 1) : text;
        return !bare.contains("||") && bare.split(" && ")[0].matches(counter + " (<|<=|>|>=) .*");
    }

    @Override
    public Void visitDoWhileLoop(DoWhileLoopTree tree, Void none) {
        never("rule 9: a do loop", tree);
        return super.visitDoWhileLoop(tree, none);
    }

    @Override
    public Void visitEnhancedForLoop(EnhancedForLoopTree tree, Void none) {
        dueTrue("rule 12: a for over an array: " + tree.getExpression(),
            trees.getTypeMirror(new TreePath(getCurrentPath(), tree.getExpression())).toString().endsWith("[]"));
        return super.visitEnhancedForLoop(tree, none);
    }

    @Override
    public Void visitBinary(BinaryTree tree, Void none) {
        if (tree.getKind() == Tree.Kind.DIVIDE || tree.getKind() == Tree.Kind.REMAINDER) {
            ExpressionTree divisor = tree.getRightOperand();
            dueTrue("rule 7: a divisor that is a number above 0: " + tree,
                divisor instanceof LiteralTree literal && literal.getValue() instanceof Integer n && n > 0);
        }
        dueTrue("rules 3 and 10: numbers alone in " + tree,
            trees.getTypeMirror(getCurrentPath()).getKind().isPrimitive());
        return super.visitBinary(tree, none);
    }

    @Override
    public Void visitTypeCast(TypeCastTree tree, Void none) {
        dueTrue("rule 6: a cast of a number: " + tree, TYPES.contains(tree.getType().toString()));
        return super.visitTypeCast(tree, none);
    }

    @Override
    public Void visitLiteral(LiteralTree tree, Void none) {
        if (tree.getValue() instanceof String text) {
            dueTrue("rule 3: characters of " + tree, text.chars().allMatch(character -> character <= 255));
        }
        return super.visitLiteral(tree, none);
    }

    @Override
    public Void visitLambdaExpression(LambdaExpressionTree tree, Void none) {
        never("rule 2: a lambda", tree);
        return super.visitLambdaExpression(tree, none);
    }

    @Override
    public Void visitMemberReference(MemberReferenceTree tree, Void none) {
        never("rule 2: a method reference", tree);
        return super.visitMemberReference(tree, none);
    }

    @Override
    public Void visitTry(TryTree tree, Void none) {
        never("rule 6: try and catch", tree);
        return super.visitTry(tree, none);
    }

    @Override
    public Void visitSynchronized(SynchronizedTree tree, Void none) {
        never("rule 6: synchronized", tree);
        return super.visitSynchronized(tree, none);
    }

    @Override
    public Void visitAssert(AssertTree tree, Void none) {
        never("rule 6: assert", tree);
        return super.visitAssert(tree, none);
    }

    @Override
    public Void visitInstanceOf(InstanceOfTree tree, Void none) {
        never("rule 6: instanceof", tree);
        return super.visitInstanceOf(tree, none);
    }
}
