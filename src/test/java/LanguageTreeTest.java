import com.sun.source.tree.BinaryTree;
import com.sun.source.tree.ClassTree;
import com.sun.source.tree.CompilationUnitTree;
import com.sun.source.tree.CompoundAssignmentTree;
import com.sun.source.tree.DoWhileLoopTree;
import com.sun.source.tree.ForLoopTree;
import com.sun.source.tree.IdentifierTree;
import com.sun.source.tree.InstanceOfTree;
import com.sun.source.tree.LambdaExpressionTree;
import com.sun.source.tree.MemberReferenceTree;
import com.sun.source.tree.MethodInvocationTree;
import com.sun.source.tree.MethodTree;
import com.sun.source.tree.NewArrayTree;
import com.sun.source.tree.NewClassTree;
import com.sun.source.tree.ThrowTree;
import com.sun.source.tree.Tree;
import com.sun.source.tree.TryTree;
import com.sun.source.tree.TypeCastTree;
import com.sun.source.tree.VariableTree;
import com.sun.source.tree.WhileLoopTree;
import com.sun.source.util.JavacTask;
import com.sun.source.util.TreePath;
import com.sun.source.util.TreePathScanner;
import com.sun.source.util.Trees;
import java.io.File;
import java.io.IOException;
import java.util.ArrayDeque;
import java.util.Deque;
import java.util.HashMap;
import java.util.HashSet;
import java.util.List;
import java.util.Map;
import java.util.Set;
import java.util.TreeMap;
import java.util.TreeSet;
import java.util.regex.Pattern;
import javax.lang.model.element.Element;
import javax.lang.model.element.ExecutableElement;
import javax.lang.model.element.Modifier;
import javax.lang.model.element.VariableElement;
import javax.lang.model.type.TypeKind;
import javax.lang.model.type.TypeMirror;
import javax.tools.JavaCompiler;
import javax.tools.StandardJavaFileManager;
import javax.tools.ToolProvider;

/** The rules of LANGUAGE.md that the compiler's tree of the source shows, by the rule's number. */
public final class LanguageTreeTest {
    private static final Checks C = new Checks("LanguageTreeTest");
    private static final Set<String> LIBRARY = Set.of("java.lang.String.length", "java.lang.String.charAt",
        "java.util.Arrays.fill", "java.lang.System.arraycopy", "java.lang.Math.max", "java.lang.Math.min",
        "java.lang.Integer.bitCount");
    private static final int DEEPEST = 8;

    private static Trees trees;
    private static final Map<String, Set<String>> CALLS = new TreeMap<>();
    private static final Set<String> PRIVATE_STATIC = new HashSet<>();

    private static final class Reader extends TreePathScanner<Void, Void> {
        private final Deque<String> inside = new ArrayDeque<>();
        private String body = "";

        private String where(Tree tree) {
            CompilationUnitTree unit = getCurrentPath().getCompilationUnit();
            long at = trees.getSourcePositions().getStartPosition(unit, tree);
            return "line " + unit.getLineMap().getLineNumber(at);
        }

        private TypeMirror typeOf(Tree tree) {
            return trees.getTypeMirror(new TreePath(getCurrentPath(), tree));
        }

        @Override
        public Void visitClass(ClassTree tree, Void none) {
            Element e = trees.getElement(getCurrentPath());
            boolean outer = getCurrentPath().getParentPath().getLeaf() instanceof CompilationUnitTree;
            C.due("2 " + e + " is static", outer || e.getModifiers().contains(Modifier.STATIC));
            C.due("2 " + e + " is a member", outer || getCurrentPath().getParentPath().getLeaf() instanceof ClassTree);
            C.due("1 " + e + " is as visible as it may be",
                outer || !e.getModifiers().contains(Modifier.PUBLIC) && !e.getModifiers().contains(Modifier.PROTECTED));
            return super.visitClass(tree, none);
        }

        @Override
        public Void visitMethod(MethodTree tree, Void none) {
            ExecutableElement e = (ExecutableElement) trees.getElement(getCurrentPath());
            String name = nameOf(e);
            C.due("1 one method of the name " + name, !CALLS.containsKey(name));
            CALLS.putIfAbsent(name, new TreeSet<>());
            if (e.getModifiers().containsAll(Set.of(Modifier.PRIVATE, Modifier.STATIC))) {
                PRIVATE_STATIC.add(name);
            }
            C.due("11 parameters of " + name, e.getParameters().size() <= 7);
            inside.push(name);
            body = String.valueOf(tree.getBody());
            super.visitMethod(tree, none);
            inside.pop();
            return null;
        }

        @Override
        public Void visitMethodInvocation(MethodInvocationTree tree, Void none) {
            Element e = trees.getElement(getCurrentPath());
            if (e instanceof ExecutableElement && !e.getSimpleName().contentEquals("<init>")) {
                String name = nameOf((ExecutableElement) e);
                if (name.startsWith("NeverAgain")) {
                    called(name);
                } else {
                    C.due("4 " + name + ", " + where(tree), LIBRARY.contains(name));
                }
            }
            return super.visitMethodInvocation(tree, none);
        }

        @Override
        public Void visitNewClass(NewClassTree tree, Void none) {
            String made = typeOf(tree.getIdentifier()).toString();
            C.due("2 no class without a name, " + where(tree), tree.getClassBody() == null);
            C.due("4 new " + made, made.startsWith("NeverAgain"));
            C.due("12 " + made + " is made by a constructor, " + where(tree),
                inside.isEmpty() || inside.peek().endsWith(".<init>"));
            called(made + ".<init>");
            return super.visitNewClass(tree, none);
        }

        private void called(String name) {
            if (!inside.isEmpty()) {
                CALLS.get(inside.peek()).add(name);
            }
        }

        @Override
        public Void visitNewArray(NewArrayTree tree, Void none) {
            boolean field = inside.isEmpty() || inside.peek().endsWith(".<init>");
            C.due("12 an array is made once, " + where(tree), field);
            for (Tree length : tree.getDimensions()) {
                C.due("7 a length that is a constant, " + where(tree), isConstant(length));
            }
            return super.visitNewArray(tree, none);
        }

        private boolean isConstant(Tree tree) {
            if (tree instanceof BinaryTree) {
                return isConstant(((BinaryTree) tree).getLeftOperand()) && isConstant(((BinaryTree) tree).getRightOperand());
            }
            if (tree instanceof IdentifierTree) {
                Element e = trees.getElement(new TreePath(getCurrentPath(), tree));
                return e instanceof VariableElement && ((VariableElement) e).getConstantValue() != null;
            }
            return tree.getKind() == Tree.Kind.INT_LITERAL;
        }

        @Override
        public Void visitVariable(VariableTree tree, Void none) {
            VariableElement e = (VariableElement) trees.getElement(getCurrentPath());
            TypeMirror type = e.asType();
            TypeMirror plain = type.getKind() == TypeKind.ARRAY
                ? ((javax.lang.model.type.ArrayType) type).getComponentType() : type;
            boolean known = Set.of("int", "long", "byte", "boolean", "java.lang.String").contains(plain.toString())
                || plain.toString().startsWith("NeverAgain");
            C.due("3 the type of " + e + ", " + where(tree), known);
            if (e.getKind().isField() && e.getModifiers().contains(Modifier.STATIC)) {
                C.due("5 " + e + " is a constant", e.getConstantValue() != null);
            }
            return super.visitVariable(tree, none);
        }

        @Override
        public Void visitBinary(BinaryTree tree, Void none) {
            TypeMirror type = trees.getTypeMirror(getCurrentPath());
            C.due("10 texts are not joined by +, " + where(tree), !"java.lang.String".equals(String.valueOf(type)));
            if (tree.getKind() == Tree.Kind.DIVIDE || tree.getKind() == Tree.Kind.REMAINDER) {
                String looked = "(?s).*\\b" + Pattern.quote(tree.getRightOperand().toString()) + " (<|!=) [01]\\b.*";
                C.due("7 a divisor that is looked at, " + where(tree) + ": " + tree, body.matches(looked));
            }
            return super.visitBinary(tree, none);
        }

        @Override
        public Void visitCompoundAssignment(CompoundAssignmentTree tree, Void none) {
            boolean divides = tree.getKind() == Tree.Kind.DIVIDE_ASSIGNMENT || tree.getKind() == Tree.Kind.REMAINDER_ASSIGNMENT;
            C.due("7 no divisor out of sight, " + where(tree), !divides);
            return super.visitCompoundAssignment(tree, none);
        }

        @Override
        public Void visitTypeCast(TypeCastTree tree, Void none) {
            C.due("6 a cast of numbers alone, " + where(tree), typeOf(tree.getType()).getKind().isPrimitive());
            return super.visitTypeCast(tree, none);
        }

        @Override
        public Void visitForLoop(ForLoopTree tree, Void none) {
            String bound = String.valueOf(tree.getCondition());
            C.due("9 a loop with a bound, " + where(tree) + ": " + bound, bound.matches(".*(<|<=|>|>=) .*") && !tree.getUpdate().isEmpty());
            return super.visitForLoop(tree, none);
        }

        @Override
        public Void visitWhileLoop(WhileLoopTree tree, Void none) {
            String bound = tree.getCondition().toString();
            C.due("9 a loop with a bound, " + where(tree) + ": " + bound, bound.matches(".*(<|<=|>|>=) .*"));
            return super.visitWhileLoop(tree, none);
        }

        @Override
        public Void visitDoWhileLoop(DoWhileLoopTree tree, Void none) {
            C.due("9 no loop whose bound stands behind it, " + where(tree), false);
            return super.visitDoWhileLoop(tree, none);
        }

        @Override
        public Void visitInstanceOf(InstanceOfTree tree, Void none) {
            C.due("6 nothing is of several kinds, " + where(tree), false);
            return super.visitInstanceOf(tree, none);
        }

        @Override
        public Void visitLambdaExpression(LambdaExpressionTree tree, Void none) {
            C.due("2 no lambda, " + where(tree), false);
            return super.visitLambdaExpression(tree, none);
        }

        @Override
        public Void visitMemberReference(MemberReferenceTree tree, Void none) {
            C.due("2 no method reference, " + where(tree), false);
            return super.visitMemberReference(tree, none);
        }

        @Override
        public Void visitThrow(ThrowTree tree, Void none) {
            C.due("6 no throw, " + where(tree), false);
            return super.visitThrow(tree, none);
        }

        @Override
        public Void visitTry(TryTree tree, Void none) {
            C.due("6 no try, " + where(tree), false);
            return super.visitTry(tree, none);
        }
    }

    private static String nameOf(ExecutableElement e) {
        return e.getEnclosingElement() + "." + e.getSimpleName();
    }

    /** All that a method calls, at once or by others. */
    private static Set<String> reached(String from) {
        Set<String> all = new HashSet<>();
        Deque<String> open = new ArrayDeque<>(CALLS.getOrDefault(from, Set.of()));
        while (!open.isEmpty()) {
            String next = open.pop();
            if (all.add(next)) {
                open.addAll(CALLS.getOrDefault(next, Set.of()));
            }
        }
        return all;
    }

    private static void recursion(Map<String, Integer> depths) {
        for (String name : CALLS.keySet()) {
            if (reached(name).contains(name)) {
                C.due("8 " + name + " calls itself, and is private and static", PRIVATE_STATIC.contains(name));
            }
        }
        for (String name : CALLS.keySet()) {
            int depth = depthOf(name, depths);
            C.due("11 calls that are no recursion, from " + name + ": " + depth, depth <= DEEPEST);
        }
    }

    /** How many calls stand open at most, this one too; those of one recursion count once each. */
    private static int depthOf(String name, Map<String, Integer> known) {
        Integer before = known.get(name);
        if (before != null) {
            return before;
        }
        int deepest = 0;
        for (String next : CALLS.getOrDefault(name, Set.of())) {
            boolean again = next.equals(name) || reached(next).contains(name) && known.containsKey("open " + next);
            if (!again) {
                known.put("open " + name, 1);
                deepest = Math.max(deepest, depthOf(next, known));
                known.remove("open " + name);
            }
        }
        known.put(name, deepest + 1);
        return deepest + 1;
    }

    public static void main(String[] args) throws IOException {
        JavaCompiler compiler = ToolProvider.getSystemJavaCompiler();
        if (compiler == null) {
            System.out.println("LanguageTreeTest: this java has no compiler inside, and can not read the tree");
            return;
        }
        StandardJavaFileManager files = compiler.getStandardFileManager(null, null, null);
        JavacTask task = (JavacTask) compiler.getTask(null, files, null, List.of("-proc:none"), null,
            files.getJavaFileObjects(new File("src/main/java/NeverAgain.java")));
        Iterable<? extends CompilationUnitTree> units = task.parse();
        task.analyze();
        trees = Trees.instance(task);
        for (CompilationUnitTree unit : units) {
            new Reader().scan(unit, null);
        }
        C.due("the source was read", CALLS.size() > 40);
        recursion(new HashMap<>());
        C.close();
    }
}
