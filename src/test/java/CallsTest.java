import com.sun.source.tree.CompilationUnitTree;
import com.sun.source.tree.DoWhileLoopTree;
import com.sun.source.tree.ForLoopTree;
import com.sun.source.tree.MethodInvocationTree;
import com.sun.source.tree.MethodTree;
import com.sun.source.tree.NewArrayTree;
import com.sun.source.tree.NewClassTree;
import com.sun.source.tree.WhileLoopTree;
import com.sun.source.util.JavacTask;
import com.sun.source.util.TreePathScanner;
import com.sun.source.util.Trees;
import java.io.File;
import java.io.IOException;
import java.util.ArrayDeque;
import java.util.Deque;
import java.util.LinkedHashMap;
import java.util.LinkedHashSet;
import java.util.List;
import java.util.Map;
import java.util.Set;
import javax.lang.model.element.Element;
import javax.lang.model.element.ElementKind;
import javax.tools.JavaCompiler;
import javax.tools.StandardJavaFileManager;
import javax.tools.ToolProvider;

/** What of LANGUAGE.md can be seen in the calls between methods, as the compiler reads them. */
public final class CallsTest {
    private static final String SOURCE = "src/main/java/ParoleCache.java";
    private static final int DEEPEST = 8;
    private static final Set<String> LIBRARY = Set.of("java.lang.Math.abs", "java.lang.Math.max", "java.lang.Math.min",
        "java.lang.Integer.bitCount");

    private static final Checks CHECKS = new Checks();

    public static void main(String[] args) throws IOException {
        Calls calls = read(args.length > 0 ? args[0] : SOURCE);
        CHECKS.due("methods and constructors were read", 1, calls.made.size() > 26 ? 1 : 0);
        for (String used : calls.library) {
            CHECKS.due("the library has no " + used + " (rule 4)", 1, LIBRARY.contains(used) ? 1 : 0);
        }
        for (String place : calls.objects) {
            CHECKS.due("an object is made outside constructors, in " + place + " (rule 12)", 0, 1);
        }
        for (String place : calls.openLoops) {
            CHECKS.due("a loop without a counter, in " + place + " (rule 9)", 0, 1);
        }
        for (String method : calls.made.keySet()) {
            CHECKS.due("how much deeper than " + DEEPEST + " the calls of " + method + " go (rule 11)", 0,
                Math.max(0, calls.depth(method, new ArrayDeque<>()) - DEEPEST));
        }
        CHECKS.close("CallsTest");
    }

    private static Calls read(String source) throws IOException {
        JavaCompiler compiler = ToolProvider.getSystemJavaCompiler();
        try (StandardJavaFileManager files = compiler.getStandardFileManager(null, null, null)) {
            JavacTask task = (JavacTask) compiler.getTask(null, files, null, List.of("-proc:none"), null,
                files.getJavaFileObjects(new File(source)));
            Iterable<? extends CompilationUnitTree> units = task.parse();
            task.analyze();
            Calls calls = new Calls(Trees.instance(task));
            calls.scan(units, null);
            return calls;
        }
    }

    /** Which method calls which, by their full names with the kinds of their arguments. */
    private static final class Calls extends TreePathScanner<Void, Void> {
        private final Trees trees;
        private final Map<String, Set<String>> made = new LinkedHashMap<>();
        private final Set<String> library = new LinkedHashSet<>();
        private final Set<String> objects = new LinkedHashSet<>();
        private final Set<String> openLoops = new LinkedHashSet<>();
        private String inside = "";
        private boolean building = false;

        Calls(Trees trees) {
            this.trees = trees;
        }

        /** How many methods stand open at once at most, this one too; a method that calls itself is a fault. */
        int depth(String method, Deque<String> open) {
            if (open.contains(method)) {
                CHECKS.due("'" + method + "' calls itself, with no guard on the depth (rule 8)", 0, 1);
                return 0;
            }
            open.push(method);
            int deepest = 0;
            for (String called : made.getOrDefault(method, Set.of())) {
                deepest = Math.max(deepest, depth(called, open));
            }
            open.pop();
            return deepest + 1;
        }

        @Override
        public Void visitMethod(MethodTree tree, Void nothing) {
            Element method = trees.getElement(getCurrentPath());
            inside = name(method);
            building = method.getKind() == ElementKind.CONSTRUCTOR;
            made.putIfAbsent(inside, new LinkedHashSet<>());
            return super.visitMethod(tree, nothing);
        }

        @Override
        public Void visitMethodInvocation(MethodInvocationTree tree, Void nothing) {
            note(trees.getElement(getCurrentPath()));
            return super.visitMethodInvocation(tree, nothing);
        }

        @Override
        public Void visitNewClass(NewClassTree tree, Void nothing) {
            note(trees.getElement(getCurrentPath()));
            madeHere();
            return super.visitNewClass(tree, nothing);
        }

        @Override
        public Void visitNewArray(NewArrayTree tree, Void nothing) {
            madeHere();
            return super.visitNewArray(tree, nothing);
        }

        @Override
        public Void visitForLoop(ForLoopTree tree, Void nothing) {
            if (tree.getInitializer().isEmpty() || tree.getCondition() == null || tree.getUpdate().isEmpty()) {
                openLoops.add(inside);
            }
            return super.visitForLoop(tree, nothing);
        }

        @Override
        public Void visitWhileLoop(WhileLoopTree tree, Void nothing) {
            openLoops.add(inside);
            return super.visitWhileLoop(tree, nothing);
        }

        @Override
        public Void visitDoWhileLoop(DoWhileLoopTree tree, Void nothing) {
            openLoops.add(inside);
            return super.visitDoWhileLoop(tree, nothing);
        }

        private void madeHere() {
            if (!building) {
                objects.add(inside);
            }
        }

        private void note(Element called) {
            String name = name(called);
            if (name.startsWith("ParoleCache")) {
                made.get(inside).add(name);
            } else if (!name.equals("java.lang.Object.<init>()")) {
                library.add(name.replaceAll("\\(.*", ""));
            }
        }

        private static String name(Element method) {
            return method.getEnclosingElement() + "." + method.getSimpleName()
                + method.asType().toString().replaceAll("(?s)^(\\([^)]*\\)).*", "$1");
        }
    }
}
