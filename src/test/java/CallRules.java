import com.sun.source.tree.ClassTree;
import com.sun.source.tree.CompilationUnitTree;
import com.sun.source.tree.DoWhileLoopTree;
import com.sun.source.tree.EnhancedForLoopTree;
import com.sun.source.tree.ExpressionTree;
import com.sun.source.tree.ForLoopTree;
import com.sun.source.tree.MethodInvocationTree;
import com.sun.source.tree.MethodTree;
import com.sun.source.tree.NewArrayTree;
import com.sun.source.tree.NewClassTree;
import com.sun.source.tree.WhileLoopTree;
import com.sun.source.util.JavacTask;
import com.sun.source.util.TreePath;
import com.sun.source.util.TreePathScanner;
import com.sun.source.util.Trees;
import java.nio.file.Path;
import java.util.ArrayDeque;
import java.util.Deque;
import java.util.HashSet;
import java.util.LinkedHashMap;
import java.util.Map;
import java.util.Set;
import java.util.TreeSet;
import javax.lang.model.element.Element;
import javax.lang.model.element.ExecutableElement;
import javax.lang.model.element.Modifier;
import javax.lang.model.element.TypeElement;
import javax.tools.JavaCompiler;
import javax.tools.StandardJavaFileManager;
import javax.tools.ToolProvider;

/** Who calls whom, by the compiler's own tree: rules 4, 7, 8, 11 and 12 of LANGUAGE.md. Run from the project's folder. */
public final class CallRules {
    private static final Check check = new Check();
    private static final int DEEP = 8;
    /** Of the library, what rule 4 lists and the class may use. */
    private static final Set<String> LIBRARY = Set.of(
        "String.length", "String.charAt", "String.isEmpty", "String.equals", "String.substring",
        "Integer.bitCount", "Long.bitCount", "Integer.compare", "Long.compare",
        "Math.max", "Math.min", "Math.abs", "Math.floorMod", "Math.floorDiv",
        "System.arraycopy", "Arrays.fill", "Arrays.copyOf", "Arrays.copyOfRange");

    private final Map<String, Set<String>> calls = new LinkedHashMap<>();
    private final Set<String> open = new TreeSet<>();
    private final Set<String> library = new TreeSet<>();
    private final Set<String> makers = new TreeSet<>();

    private static String name(Element method) {
        return method.getEnclosingElement().getSimpleName() + "." + method.getSimpleName();
    }

    private static boolean isOwn(Element method) {
        return method.getEnclosingElement() instanceof TypeElement type && type.getQualifiedName().toString().startsWith("UprightFair");
    }

    /** Walks the tree, with the method that it is in. */
    private final class Walker extends TreePathScanner<Void, Void> {
        private final Trees trees;
        private final Deque<String> in = new ArrayDeque<>();

        Walker(Trees trees) {
            this.trees = trees;
        }

        @Override
        public Void visitClass(ClassTree tree, Void none) {
            in.push("a class");
            super.visitClass(tree, none);
            in.pop();
            return null;
        }

        @Override
        public Void visitMethod(MethodTree tree, Void none) {
            Element method = trees.getElement(getCurrentPath());
            calls.putIfAbsent(name(method), new TreeSet<>());
            if (method.getModifiers().contains(Modifier.PUBLIC)) {
                open.add(name(method));
            }
            in.push(name(method));
            super.visitMethod(tree, none);
            in.pop();
            return null;
        }

        @Override
        public Void visitMethodInvocation(MethodInvocationTree tree, Void none) {
            Element called = trees.getElement(getCurrentPath());
            // A constructor's call of the one above it is the compiler's own.
            if (called instanceof ExecutableElement && !called.getSimpleName().contentEquals("<init>")) {
                if (isOwn(called)) {
                    calls.computeIfAbsent(in.peek(), m -> new TreeSet<>()).add(name(called));
                } else {
                    library.add(name(called));
                }
            }
            return super.visitMethodInvocation(tree, none);
        }

        @Override
        public Void visitNewClass(NewClassTree tree, Void none) {
            makers.add(in.peek());
            return super.visitNewClass(tree, none);
        }

        @Override
        public Void visitNewArray(NewArrayTree tree, Void none) {
            makers.add(in.peek());
            return super.visitNewArray(tree, none);
        }

        @Override
        public Void visitForLoop(ForLoopTree tree, Void none) {
            check.due("rule 9: a bound in " + in.peek(), tree.getCondition() != null, true);
            return super.visitForLoop(tree, none);
        }

        @Override
        public Void visitWhileLoop(WhileLoopTree tree, Void none) {
            bound(tree.getCondition());
            return super.visitWhileLoop(tree, none);
        }

        @Override
        public Void visitDoWhileLoop(DoWhileLoopTree tree, Void none) {
            bound(tree.getCondition());
            return super.visitDoWhileLoop(tree, none);
        }

        private void bound(ExpressionTree condition) {
            check.due("rule 9: a counter's bound in " + in.peek() + ": " + condition, condition.toString().contains("<"), true);
        }

        @Override
        public Void visitEnhancedForLoop(EnhancedForLoopTree tree, Void none) {
            String over = trees.getTypeMirror(new TreePath(getCurrentPath(), tree.getExpression())).toString();
            check.due("rule 12: no list's iterator in " + in.peek(), over.endsWith("[]"), true);
            return super.visitEnhancedForLoop(tree, none);
        }
    }

    private void read() throws Exception {
        JavaCompiler compiler = ToolProvider.getSystemJavaCompiler();
        try (StandardJavaFileManager files = compiler.getStandardFileManager(null, null, null)) {
            JavacTask task = (JavacTask) compiler.getTask(null, files, null, null, null, files.getJavaFileObjects(Path.of("src/main/java/UprightFair.java")));
            Iterable<? extends CompilationUnitTree> units = task.parse();
            task.analyze();
            for (CompilationUnitTree unit : units) {
                new Walker(Trees.instance(task)).scan(unit, null);
            }
        }
    }

    /** How many methods stand open at once from here, one that calls itself counted once. */
    private int deep(String method, Set<String> standing) {
        int deepest = 0;
        standing.add(method);
        for (String called : calls.getOrDefault(method, Set.of())) {
            if (called.equals(method)) {
                continue;
            }
            check.due("rule 8: " + called + " stands open already, called by " + method, standing.contains(called), false);
            if (!standing.contains(called)) {
                deepest = Math.max(deepest, deep(called, standing));
            }
        }
        standing.remove(method);
        return deepest + 1;
    }

    private void judge() {
        check.due("promises, the constructor one of them", open.size(), 37);
        for (String method : open) {
            check.due("rule 11: " + method + " goes at most eight deep", deep(method, new HashSet<>()) <= DEEP, true);
        }
        for (String used : library) {
            check.due("rule 4: " + used, LIBRARY.contains(used), true);
        }
        // Only the look ahead of the TURNS calls itself, and n keeps it low.
        for (Map.Entry<String, Set<String>> e : calls.entrySet()) {
            if (e.getValue().contains(e.getKey())) {
                check.due("rule 8: " + e.getKey() + " calls itself", e.getKey().equals("Conscience.lookAhead"), true);
            }
        }
        for (String maker : makers) {
            check.due("rule 12: made in " + maker, maker.equals("a class") || maker.endsWith(".<init>"), true);
        }
    }

    public static void main(String[] args) throws Exception {
        CallRules rules = new CallRules();
        rules.read();
        rules.judge();
        check.end("CallRules");
    }
}
