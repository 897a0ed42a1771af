import com.sun.source.tree.ArrayAccessTree;
import com.sun.source.tree.BinaryTree;
import com.sun.source.tree.BlockTree;
import com.sun.source.tree.ClassTree;
import com.sun.source.tree.CompilationUnitTree;
import com.sun.source.tree.DoWhileLoopTree;
import com.sun.source.tree.EnhancedForLoopTree;
import com.sun.source.tree.ForLoopTree;
import com.sun.source.tree.MethodInvocationTree;
import com.sun.source.tree.MethodTree;
import com.sun.source.tree.NewArrayTree;
import com.sun.source.tree.NewClassTree;
import com.sun.source.tree.PrimitiveTypeTree;
import com.sun.source.tree.Tree;
import com.sun.source.tree.Tree.Kind;
import com.sun.source.tree.VariableTree;
import com.sun.source.tree.WhileLoopTree;
import com.sun.source.util.TreePath;
import com.sun.source.util.TreePathScanner;
import com.sun.source.util.Trees;
import java.util.ArrayList;
import java.util.LinkedHashMap;
import java.util.LinkedHashSet;
import java.util.List;
import java.util.Map;
import java.util.Set;
import java.util.TreeSet;
import javax.lang.model.element.Element;
import javax.lang.model.element.Modifier;
import javax.lang.model.element.VariableElement;

/** What the compiler reads in a file: its classes, methods, variables, and which method calls which. */
final class Code {
    private final CompilationUnitTree unit;
    private final Trees trees;
    private final List<Tree> all = new ArrayList<>();
    private final List<ClassTree> classes = new ArrayList<>();
    private final Map<Element, Function> functions = new LinkedHashMap<>();
    private final List<Variable> variables = new ArrayList<>();
    private final List<Use> indexes = new ArrayList<>();
    private final List<Use> divisors = new ArrayList<>();
    private final List<Use> lengths = new ArrayList<>();
    private final List<Tree> loops = new ArrayList<>();
    private final List<Call> calls = new ArrayList<>();
    private int blocksOutside = 0;

    Code(CompilationUnitTree unit, Trees trees) {
        this.unit = unit;
        this.trees = trees;
        new Reader().scan(unit, null);
        for (Call call : calls) {
            if (functions.containsKey(call.callee())) {
                functions.get(call.callee()).callers.add(call);
            }
        }
    }

    List<Tree> trees() {
        return all;
    }

    List<ClassTree> classes() {
        return classes;
    }

    List<Function> functions() {
        return List.copyOf(functions.values());
    }

    List<Variable> variables() {
        return variables;
    }

    List<Use> indexes() {
        return indexes;
    }

    List<Use> divisors() {
        return divisors;
    }

    List<Use> lengths() {
        return lengths;
    }

    List<Tree> loops() {
        return loops;
    }

    int blocksOutside() {
        return blocksOutside;
    }

    boolean isOwn(String type) {
        return classes.stream().anyMatch(one -> type.equals(one.getSimpleName().toString()));
    }

    /** The fields beside the constants. */
    int fields(ClassTree one) {
        int count = 0;
        for (Tree member : one.getMembers()) {
            if (member instanceof VariableTree field && !field.getModifiers().getFlags().contains(Modifier.STATIC)) {
                count++;
            }
        }
        return count;
    }

    /** How many methods stand open at most when this one is called, this one counted; not more than the bound. */
    int depth(Function function, int bound) {
        if (bound == 0) {
            return 0;
        }
        int deepest = 0;
        for (Element call : function.calls) {
            if (functions.containsKey(call)) {
                deepest = Math.max(deepest, depth(functions.get(call), bound - 1));
            }
        }
        return deepest + 1;
    }

    static final class Function {
        private final MethodTree tree;
        private final String owner;
        private final int lines;
        private final Set<Element> calls = new LinkedHashSet<>();
        private final Set<String> libraryCalls = new TreeSet<>();
        private final List<Call> callers = new ArrayList<>();
        private boolean makesObjects = false;

        Function(MethodTree tree, String owner, int lines) {
            this.tree = tree;
            this.owner = owner;
            this.lines = lines;
        }

        String name() {
            return tree.getName().toString();
        }

        boolean isConstructor() {
            return tree.getReturnType() == null;
        }

        boolean isOfTheFace() {
            return !isConstructor() && tree.getModifiers().getFlags().contains(Modifier.PUBLIC);
        }

        int parameters() {
            return tree.getParameters().size();
        }

        int lines() {
            return lines;
        }

        Set<String> libraryCalls() {
            return libraryCalls;
        }

        List<Call> callers() {
            return callers;
        }

        boolean makesObjects() {
            return makesObjects;
        }

        boolean mayAnswerNull() {
            return !isConstructor() && !(tree.getReturnType() instanceof PrimitiveTypeTree)
                && tree.getBody().toString().contains("null");
        }

        boolean testsForNull(String variable) {
            String body = tree.getBody().toString();
            return body.contains(variable + " == null") || body.contains(variable + " != null");
        }

        @Override
        public String toString() {
            return owner + "." + name();
        }
    }

    /** A call, with the tree that it stands in and the method that it stands in. */
    record Call(Element callee, Tree parent, Function from) {
    }

    record Variable(String name, String type, boolean isStatic, boolean isFinal, boolean isConstant) {
    }

    /** An index, a divisor or the length of a new array, and what stands round it in the same method. */
    record Use(String name, String of, String where, List<String> tests, boolean isNumberBut0, boolean isFloat) {
        boolean isTested(String test) {
            return tests.stream().anyMatch(head -> head.contains(test));
        }
    }

    private final class Reader extends TreePathScanner<Void, Void> {
        @Override
        public Void scan(Tree tree, Void nothing) {
            if (tree != null) {
                all.add(tree);
            }
            return super.scan(tree, nothing);
        }

        @Override
        public Void visitClass(ClassTree tree, Void nothing) {
            classes.add(tree);
            for (Tree member : tree.getMembers()) {
                blocksOutside += member instanceof BlockTree ? 1 : 0;
            }
            return super.visitClass(tree, nothing);
        }

        @Override
        public Void visitMethod(MethodTree tree, Void nothing) {
            Element element = trees.getElement(getCurrentPath());
            functions.put(element,
                new Function(tree, element.getEnclosingElement().getSimpleName().toString(), linesOf(tree)));
            return super.visitMethod(tree, nothing);
        }

        @Override
        public Void visitVariable(VariableTree tree, Void nothing) {
            Set<Modifier> flags = tree.getModifiers().getFlags();
            VariableElement element = (VariableElement) trees.getElement(getCurrentPath());
            variables.add(new Variable(tree.getName().toString(), tree.getType().toString(),
                flags.contains(Modifier.STATIC), flags.contains(Modifier.FINAL), element.getConstantValue() != null));
            return super.visitVariable(tree, nothing);
        }

        @Override
        public Void visitMethodInvocation(MethodInvocationTree tree, Void nothing) {
            Element callee = trees.getElement(new TreePath(getCurrentPath(), tree.getMethodSelect()));
            called(callee);
            calls.add(new Call(callee, getCurrentPath().getParentPath().getLeaf(), here()));
            return super.visitMethodInvocation(tree, nothing);
        }

        @Override
        public Void visitNewClass(NewClassTree tree, Void nothing) {
            called(trees.getElement(getCurrentPath()));
            makes();
            return super.visitNewClass(tree, nothing);
        }

        @Override
        public Void visitNewArray(NewArrayTree tree, Void nothing) {
            makes();
            tree.getDimensions().forEach(length -> lengths.add(use(length, "")));
            return super.visitNewArray(tree, nothing);
        }

        @Override
        public Void visitArrayAccess(ArrayAccessTree tree, Void nothing) {
            indexes.add(use(tree.getIndex(), tree.getExpression().toString()));
            return super.visitArrayAccess(tree, nothing);
        }

        @Override
        public Void visitBinary(BinaryTree tree, Void nothing) {
            if (tree.getKind() == Kind.DIVIDE || tree.getKind() == Kind.REMAINDER) {
                divisors.add(use(tree.getRightOperand(), ""));
            }
            return super.visitBinary(tree, nothing);
        }

        @Override
        public Void visitForLoop(ForLoopTree tree, Void nothing) {
            loops.add(tree);
            return super.visitForLoop(tree, nothing);
        }

        @Override
        public Void visitWhileLoop(WhileLoopTree tree, Void nothing) {
            loops.add(tree);
            return super.visitWhileLoop(tree, nothing);
        }

        @Override
        public Void visitDoWhileLoop(DoWhileLoopTree tree, Void nothing) {
            loops.add(tree);
            return super.visitDoWhileLoop(tree, nothing);
        }

        @Override
        public Void visitEnhancedForLoop(EnhancedForLoopTree tree, Void nothing) {
            loops.add(tree);
            return super.visitEnhancedForLoop(tree, nothing);
        }

        private int linesOf(Tree tree) {
            long begin = trees.getSourcePositions().getStartPosition(unit, tree);
            long end = trees.getSourcePositions().getEndPosition(unit, tree);
            return (int) (unit.getLineMap().getLineNumber(end) - unit.getLineMap().getLineNumber(begin)) + 1;
        }

        /** The method that is being read; null in a field's first value. */
        private Function here() {
            for (TreePath path = getCurrentPath(); path != null; path = path.getParentPath()) {
                if (path.getLeaf() instanceof MethodTree) {
                    return functions.get(trees.getElement(path));
                }
            }
            return null;
        }

        private void called(Element callee) {
            Function here = here();
            if (here == null) {
                return;
            }
            if (trees.getTree(callee) != null) {
                here.calls.add(callee);
            } else {
                here.libraryCalls.add(callee.getEnclosingElement().getSimpleName() + "." + callee.getSimpleName());
            }
        }

        private void makes() {
            Function here = here();
            if (here != null) {
                here.makesObjects = true;
            }
        }

        private Use use(Tree used, String of) {
            TreePath path = new TreePath(getCurrentPath(), used);
            Element element = trees.getElement(path);
            Object value = element instanceof VariableElement variable ? variable.getConstantValue() : null;
            boolean isNumberBut0 =
                used.toString().matches("[1-9]\\d*") || (value instanceof Integer number && number > 0);
            boolean isFloat = used.getKind() == Kind.TYPE_CAST && used.toString().startsWith("(float)");
            String where = getCurrentPath().getLeaf().toString();
            return new Use(used.toString(), of, where, testsRound(), isNumberBut0, isFloat);
        }

        /** The conditions in which the present place stands, the nearest first. */
        private List<String> testsRound() {
            List<String> tests = new ArrayList<>();
            for (TreePath path = getCurrentPath(); path != null; path = path.getParentPath()) {
                Tree tree = path.getLeaf();
                if (tree instanceof MethodTree || tree instanceof ClassTree) {
                    return tests;
                }
                if (!(tree instanceof BlockTree)) {
                    tests.add(tree.toString().lines().findFirst().orElse(""));
                }
            }
            return tests;
        }
    }
}
