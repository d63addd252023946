import com.sun.source.tree.ClassTree;
import com.sun.source.tree.CompilationUnitTree;
import com.sun.source.tree.MethodInvocationTree;
import com.sun.source.tree.MethodTree;
import com.sun.source.tree.NewClassTree;
import com.sun.source.util.JavacTask;
import com.sun.source.util.TreePathScanner;
import com.sun.source.util.Trees;
import java.io.IOException;
import java.util.ArrayDeque;
import java.util.ArrayList;
import java.util.Deque;
import java.util.HashMap;
import java.util.List;
import java.util.Map;
import java.util.Set;
import java.util.TreeMap;
import java.util.TreeSet;
import javax.lang.model.element.Element;
import javax.tools.JavaCompiler;
import javax.tools.JavaFileObject;
import javax.tools.StandardJavaFileManager;
import javax.tools.ToolProvider;

/** How deep calls go (LANGUAGE.md, rules 8 and 11), read off the compiler's own tree of the file. */
public final class LanguageTest {
    private static final int DEEPEST = 8;

    private static int wrong = 0;

    private static void due(String what, Object got, Object want) {
        if (got.equals(want)) return;
        wrong++;
        System.out.println(what + " is " + got + ", due is " + want);
    }

    /** For each method of the file those that it calls, the library's too. */
    private static final class Calls extends TreePathScanner<Void, Trees> {
        final Map<String, Set<String>> calls = new TreeMap<>();
        private final Deque<String> in = new ArrayDeque<>();

        private static String name(Element e) {
            return e.getEnclosingElement().getSimpleName() + "." + e;
        }

        @Override
        public Void visitMethod(MethodTree tree, Trees trees) {
            in.push(name(trees.getElement(getCurrentPath())));
            calls.put(in.peek(), new TreeSet<>());
            super.visitMethod(tree, trees);
            in.pop();
            return null;
        }

        private void called(Trees trees) {
            Element e = trees.getElement(getCurrentPath());
            if (e != null && !in.isEmpty()) calls.get(in.peek()).add(name(e));
        }

        @Override
        public Void visitMethodInvocation(MethodInvocationTree tree, Trees trees) {
            called(trees);
            return super.visitMethodInvocation(tree, trees);
        }

        @Override
        public Void visitNewClass(NewClassTree tree, Trees trees) {
            called(trees);
            return super.visitNewClass(tree, trees);
        }
    }

    private static Map<String, Set<String>> read(String file) throws IOException {
        JavaCompiler compiler = ToolProvider.getSystemJavaCompiler();
        try (StandardJavaFileManager files = compiler.getStandardFileManager(null, null, null)) {
            Iterable<? extends JavaFileObject> units = files.getJavaFileObjects(file);
            JavacTask task = (JavacTask) compiler.getTask(null, files, null, List.of("-proc:none"), null, units);
            Calls calls = new Calls();
            Iterable<? extends CompilationUnitTree> trees = task.parse();
            task.analyze();
            for (CompilationUnitTree unit : trees) calls.scan(unit, Trees.instance(task));
            return calls.calls;
        }
    }

    /** The longest chain of calls from a method on, itself the first of it; those that call themselves are told. */
    private static List<String> longest(String from, Map<String, Set<String>> calls, Map<String, List<String>> known,
        Set<String> open) {
        if (known.containsKey(from)) return known.get(from);
        due(from + " calls itself, by others", open.add(from), true);
        List<String> most = List.of();
        for (String next : calls.getOrDefault(from, Set.of())) {
            if (open.contains(next)) {
                due(from + " calls " + next + ", which calls it", true, false);
                continue;
            }
            List<String> chain = longest(next, calls, known, open);
            if (chain.size() > most.size()) most = chain;
        }
        open.remove(from);
        List<String> chain = new ArrayList<>();
        chain.add(from);
        chain.addAll(most);
        known.put(from, chain);
        return chain;
    }

    public static void main(String[] args) throws IOException {
        Map<String, Set<String>> calls = read("src/main/java/ThreeThings.java");
        Map<String, List<String>> known = new HashMap<>();
        for (String method : calls.keySet()) {
            List<String> chain = longest(method, calls, known, new TreeSet<>());
            due("calls up to " + DEEPEST + " deep, " + chain, chain.size() <= DEEPEST, true);
        }
        due("methods that were read, at least 100", calls.size() >= 100, true);
        System.out.println(wrong == 0 ? "calls go as deep as they may" : wrong + " are not as due");
        if (wrong != 0) System.exit(1);
    }
}
