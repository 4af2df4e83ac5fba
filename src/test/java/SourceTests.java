import com.sun.source.tree.ArrayAccessTree;
import com.sun.source.tree.BinaryTree;
import com.sun.source.tree.ClassTree;
import com.sun.source.tree.CompilationUnitTree;
import com.sun.source.tree.ExpressionTree;
import com.sun.source.tree.IdentifierTree;
import com.sun.source.tree.LiteralTree;
import com.sun.source.tree.MethodInvocationTree;
import com.sun.source.tree.MethodTree;
import com.sun.source.tree.NewArrayTree;
import com.sun.source.tree.NewClassTree;
import com.sun.source.tree.Tree;
import com.sun.source.tree.TypeCastTree;
import com.sun.source.util.JavacTask;
import com.sun.source.util.SourcePositions;
import com.sun.source.util.TreePathScanner;
import com.sun.source.util.Trees;
import java.io.IOException;
import java.nio.file.Path;
import java.util.List;
import java.util.Map;
import java.util.Set;
import java.util.TreeMap;
import java.util.TreeSet;
import javax.lang.model.element.Element;
import javax.lang.model.element.ElementKind;
import javax.lang.model.element.ExecutableElement;
import javax.tools.JavaCompiler;
import javax.tools.StandardJavaFileManager;
import javax.tools.ToolProvider;

/** What LANGUAGE.md says of calls, arrays, divisors and objects, looked for in the source as javac reads it. */
public final class SourceTests {
    private static final int DEEPEST = 8;
    private static final int LONGEST = 60;
    private static final Set<String> LIBRARY = Set.of("java.lang.Math.min", "java.lang.Math.max", "java.lang.Math.abs",
            "java.util.Arrays.fill", "java.lang.System.arraycopy");
    /** The methods that look at each index themselves, right ahead of its use. */
    private static final Set<String> LOOKING = Set.of("Row.get", "Row.set", "History.<init>", "History.stateAt",
            "History.moveOldestBehind");
    /** The methods that look at a divisor that is no constant. */
    private static final Set<String> DIVIDING = Set.of("BarForger.lengthWith", "BarForger.kept");

    private final Checks checks = new Checks("SourceTests");
    private final Map<String, Set<String>> calls = new TreeMap<>();
    private final Set<String> open = new TreeSet<>();

    public static void main(String[] args) throws IOException {
        new SourceTests().run();
    }

    private void run() throws IOException {
        JavaCompiler compiler = ToolProvider.getSystemJavaCompiler();
        try (StandardJavaFileManager files = compiler.getStandardFileManager(null, null, null)) {
            JavacTask task = (JavacTask) compiler.getTask(null, files, null, List.of("-proc:none"), null,
                    files.getJavaFileObjects(Path.of("src/main/java/BarForger.java")));
            Iterable<? extends CompilationUnitTree> units = task.parse();
            task.analyze();
            for (CompilationUnitTree unit : units) {
                new Reader(Trees.instance(task), unit).scan(unit, null);
            }
        }
        for (String method : open) {
            int depth = depth(method, 1);
            checks.holds(method + " calls " + depth + " deep", depth <= DEEPEST);
        }
        checks.due("open methods and the constructor", open.size(), 26);
        checks.end();
    }

    /** Stops far above what is allowed, so that a recursion ends too. */
    private int depth(String method, int level) {
        int deepest = level;
        if (level <= 2 * DEEPEST) {
            for (String called : calls.getOrDefault(method, Set.of())) {
                deepest = Math.max(deepest, depth(called, level + 1));
            }
        }
        return deepest;
    }

    /** Reads one file, and checks each place that a rule is about. */
    private final class Reader extends TreePathScanner<Void, Void> {
        private final Trees trees;
        private final CompilationUnitTree unit;
        private String type = "";
        /** The method that is being read; a field's initial value belongs to the constructor. */
        private String method = "";

        Reader(Trees trees, CompilationUnitTree unit) {
            this.trees = trees;
            this.unit = unit;
        }

        @Override
        public Void visitClass(ClassTree tree, Void none) {
            String outerType = type;
            String outerMethod = method;
            type = tree.getSimpleName().toString();
            method = type + ".<init>";
            super.visitClass(tree, none);
            type = outerType;
            method = outerMethod;
            return null;
        }

        @Override
        public Void visitMethod(MethodTree tree, Void none) {
            String outer = method;
            method = type + "." + tree.getName();
            if (type.equals("BarForger") && tree.getModifiers().getFlags().toString().contains("public")) {
                open.add(method);
            }
            SourcePositions positions = trees.getSourcePositions();
            long first = positions.getStartPosition(unit, tree);
            long last = positions.getEndPosition(unit, tree);
            if (last >= 0) {
                long lines = unit.getLineMap().getLineNumber(last) - unit.getLineMap().getLineNumber(first) + 1;
                checks.holds(method + " has " + lines + " lines", lines <= LONGEST);
            }
            super.visitMethod(tree, none);
            method = outer;
            return null;
        }

        private void called(Element element) {
            if (element instanceof ExecutableElement) {
                Element owner = element.getEnclosingElement();
                boolean own = owner.toString().startsWith("BarForger");
                String name = own ? owner.getSimpleName() + "." + element.getSimpleName()
                        : owner + "." + element.getSimpleName();
                boolean made = element.getKind() == ElementKind.CONSTRUCTOR;
                checks.holds(name + " is allowed in " + method, own || made || LIBRARY.contains(name));
                calls.computeIfAbsent(method, first -> new TreeSet<>()).add(name);
            }
        }

        @Override
        public Void visitMethodInvocation(MethodInvocationTree tree, Void none) {
            called(trees.getElement(getCurrentPath()));
            return super.visitMethodInvocation(tree, none);
        }

        /** Objects but exceptions, and arrays, are made in constructors alone: so no call takes room. */
        @Override
        public Void visitNewClass(NewClassTree tree, Void none) {
            Element made = trees.getElement(getCurrentPath());
            called(made);
            boolean thrown = getCurrentPath().getParentPath().getLeaf().getKind() == Tree.Kind.THROW;
            checks.holds(method + " makes " + tree, thrown || method.endsWith(".<init>"));
            return super.visitNewClass(tree, none);
        }

        @Override
        public Void visitNewArray(NewArrayTree tree, Void none) {
            checks.holds(method + " makes " + tree, method.endsWith(".<init>"));
            return super.visitNewArray(tree, none);
        }

        @Override
        public Void visitArrayAccess(ArrayAccessTree tree, Void none) {
            checks.holds(method + " looks at " + tree, LOOKING.contains(method));
            return super.visitArrayAccess(tree, none);
        }

        @Override
        public Void visitBinary(BinaryTree tree, Void none) {
            if (tree.getKind() == Tree.Kind.DIVIDE || tree.getKind() == Tree.Kind.REMAINDER) {
                checks.holds(method + " divides " + tree, isConstant(tree.getRightOperand())
                        || DIVIDING.contains(method));
            }
            return super.visitBinary(tree, none);
        }

        private boolean isConstant(ExpressionTree divisor) {
            return divisor instanceof LiteralTree
                    || divisor instanceof IdentifierTree name && name.getName().toString().matches("[A-Z_]+");
        }

        @Override
        public Void visitTypeCast(TypeCastTree tree, Void none) {
            checks.equal(method + " casts " + tree, tree.getType().toString(), "double");
            return super.visitTypeCast(tree, none);
        }
    }
}
