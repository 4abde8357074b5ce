import com.sun.source.tree.ClassTree;
import com.sun.source.tree.CompilationUnitTree;
import com.sun.source.tree.MethodInvocationTree;
import com.sun.source.tree.MethodTree;
import com.sun.source.tree.NewClassTree;
import com.sun.source.tree.Tree;
import com.sun.source.util.JavacTask;
import com.sun.source.util.TreePath;
import com.sun.source.util.TreePathScanner;
import com.sun.source.util.Trees;
import java.io.IOException;
import java.nio.file.Path;
import java.util.EnumSet;
import java.util.List;
import java.util.Map;
import java.util.Set;
import java.util.TreeMap;
import java.util.TreeSet;
import javax.lang.model.element.Element;
import javax.tools.JavaCompiler;
import javax.tools.StandardJavaFileManager;
import javax.tools.ToolProvider;

/**
 * What LANGUAGE.md says of calls and of the kinds of code, looked up in the compiler's tree of the program: rule 4
 * (the library), 6 (exceptions), 8 (no recursion here), 10 (statements) and 11 (calls at most eight deep).
 */
public final class CallsTest {
    private static final int DEEPEST = 8;
    private static final int LONGEST = 60;
    private static final Set<String> LIBRARY = Set.of("java.lang.System.arraycopy", "java.lang.Math.min",
        "java.lang.Math.max", "java.lang.Integer.bitCount");
    private static final Set<String> EXCEPTIONS = Set.of("IllegalStateException", "IllegalArgumentException",
        "IndexOutOfBoundsException", "ArithmeticException", "NoSuchElementException");
    private static final Set<Tree.Kind> RULED_OUT = EnumSet.of(Tree.Kind.LAMBDA_EXPRESSION, Tree.Kind.MEMBER_REFERENCE,
        Tree.Kind.TRY, Tree.Kind.SYNCHRONIZED, Tree.Kind.ASSERT, Tree.Kind.SWITCH_EXPRESSION, Tree.Kind.INSTANCE_OF,
        Tree.Kind.ANNOTATION);

    private static final Map<String, Set<String>> callees = new TreeMap<>();

    public static void main(String[] args) throws IOException {
        JavaCompiler compiler = ToolProvider.getSystemJavaCompiler();
        try (StandardJavaFileManager files = compiler.getStandardFileManager(null, null, null)) {
            JavacTask task = (JavacTask) compiler.getTask(null, files, null, List.of("-proc:none"), null,
                files.getJavaFileObjects(Path.of("src/main/java/ElectionTabulator.java")));
            Trees trees = Trees.instance(task);
            Iterable<? extends CompilationUnitTree> units = task.parse();
            task.analyze();
            for (CompilationUnitTree unit : units) {
                new Scanner(trees, unit).scan(new TreePath(unit), null);
            }
        }
        Check.is("the program was read", callees.size() > 60 ? 1 : 0, 1);
        int deepest = 0;
        for (String method : callees.keySet()) {
            deepest = Math.max(deepest, depth(method, new TreeSet<>()));
        }
        System.out.println(callees.size() + " methods and constructors, calls " + deepest + " deep");
        Check.is("calls at most eight deep", deepest <= DEEPEST ? 1 : 0, 1);
        Check.end();
    }

    /** The longest chain of calls that begins with a method; a method that it calls again is told. */
    private static int depth(String method, Set<String> open) {
        if (!open.add(method)) {
            Check.tell("recursion through " + method);
            return 0;
        }
        int deepest = 0;
        for (String callee : callees.getOrDefault(method, Set.of())) {
            deepest = Math.max(deepest, depth(callee, open));
        }
        open.remove(method);
        return deepest + 1;
    }

    private static final class Scanner extends TreePathScanner<Void, Void> {
        private final Trees trees;
        private final CompilationUnitTree unit;
        private String method = "";

        Scanner(Trees trees, CompilationUnitTree unit) {
            this.trees = trees;
            this.unit = unit;
        }

        private static String nameOf(Element element) {
            return element.getEnclosingElement() + "." + element;
        }

        @Override
        public Void scan(Tree tree, Void nothing) {
            if (tree != null) {
                Check.is("the program has " + tree.getKind(), RULED_OUT.contains(tree.getKind()) ? 1 : 0, 0);
            }
            return super.scan(tree, nothing);
        }

        @Override
        public Void visitClass(ClassTree tree, Void nothing) {
            Check.is(tree.getSimpleName() + " has a name", tree.getSimpleName().length() > 0 ? 1 : 0, 1);
            return super.visitClass(tree, nothing);
        }

        @Override
        public Void visitMethod(MethodTree tree, Void nothing) {
            String before = method;
            method = nameOf(trees.getElement(getCurrentPath()));
            callees.put(method, new TreeSet<>());
            long first = trees.getSourcePositions().getStartPosition(unit, tree);
            long last = trees.getSourcePositions().getEndPosition(unit, tree);
            long lines = unit.getLineMap().getLineNumber(last) - unit.getLineMap().getLineNumber(first) + 1;
            Check.is(method + " is short", lines <= LONGEST ? 1 : 0, 1);
            super.visitMethod(tree, nothing);
            method = before;
            return null;
        }

        @Override
        public Void visitMethodInvocation(MethodInvocationTree tree, Void nothing) {
            noteCall(trees.getElement(new TreePath(getCurrentPath(), tree.getMethodSelect())));
            return super.visitMethodInvocation(tree, nothing);
        }

        @Override
        public Void visitNewClass(NewClassTree tree, Void nothing) {
            Element made = trees.getElement(getCurrentPath());
            if (made.getEnclosingElement().toString().startsWith("java.")) {
                boolean isThrown = getCurrentPath().getParentPath().getLeaf().getKind() == Tree.Kind.THROW;
                boolean isNamed = EXCEPTIONS.contains(made.getEnclosingElement().getSimpleName().toString());
                Check.is(made + " is an exception that is thrown", isThrown && isNamed ? 1 : 0, 1);
                Check.is("a throw in a constructor", method.contains("<init>") ? 1 : 0, 0);
            } else {
                noteCall(made);
            }
            return super.visitNewClass(tree, nothing);
        }

        private void noteCall(Element called) {
            String name = nameOf(called);
            if (name.startsWith("java.")) {
                boolean isSuper = name.equals("java.lang.Object.Object()");
                boolean isAllowed = LIBRARY.contains(name.substring(0, name.indexOf('(')));
                Check.is("the library's " + name + " is allowed", isSuper || isAllowed ? 1 : 0, 1);
            } else if (!method.isEmpty()) {
                callees.get(method).add(name);
            }
        }
    }
}
