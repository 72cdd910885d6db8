import com.sun.source.tree.CompilationUnitTree;
import com.sun.source.tree.MethodInvocationTree;
import com.sun.source.tree.MethodTree;
import com.sun.source.util.JavacTask;
import com.sun.source.util.TreePath;
import com.sun.source.util.TreePathScanner;
import com.sun.source.util.Trees;
import java.io.IOException;
import java.nio.file.Path;
import java.util.ArrayList;
import java.util.HashSet;
import java.util.List;
import java.util.Map;
import java.util.Set;
import java.util.TreeMap;
import java.util.TreeSet;
import javax.lang.model.element.Element;
import javax.lang.model.element.ExecutableElement;
import javax.lang.model.element.Modifier;
import javax.tools.JavaCompiler;
import javax.tools.StandardJavaFileManager;
import javax.tools.ToolProvider;

/** What calls what in the source, as the compiler reads it, is held against rules 4, 8 and 11 of LANGUAGE.md. */
public final class LanguageTest {
    private static final Path SOURCE = Path.of("src/main/java/RockingGuard.java");
    private static final Set<String> LIBRARY = Set.of("java.lang.String.length", "java.lang.String.charAt", "java.lang.Integer.bitCount",
            "java.lang.Math.max", "java.lang.Math.min", "java.lang.Math.abs", "java.lang.System.arraycopy", "java.util.Arrays.fill");
    private static final int DEEPEST = 8;

    private final Map<String, Set<String>> calls = new TreeMap<>();
    private final Map<String, ExecutableElement> own = new TreeMap<>();

    public static void main(String[] args) throws IOException {
        LanguageTest test = new LanguageTest();
        test.readSource();
        Due.is("all methods were looked at", test.own.size() > 120, true);
        test.libraryAlone();
        test.recursionIsGuarded();
        test.callsStayFlat();
        Due.close();
    }

    private void readSource() throws IOException {
        JavaCompiler compiler = ToolProvider.getSystemJavaCompiler();
        try (StandardJavaFileManager files = compiler.getStandardFileManager(null, null, null)) {
            JavacTask task = (JavacTask) compiler.getTask(null, files, null, List.of("-proc:none"), null, files.getJavaFileObjects(SOURCE));
            Iterable<? extends CompilationUnitTree> units = task.parse();
            task.analyze();
            Trees trees = Trees.instance(task);
            for (CompilationUnitTree unit : units) new Calls(trees).scan(unit, null);
        }
    }

    private static String nameOf(Element method) {
        return method.getEnclosingElement() + "." + method.getSimpleName();
    }

    private final class Calls extends TreePathScanner<Void, Void> {
        private final Trees trees;
        private String current = "fields";

        Calls(Trees trees) {
            this.trees = trees;
        }

        @Override
        public Void visitMethod(MethodTree node, Void none) {
            String outside = current;
            ExecutableElement method = (ExecutableElement) trees.getElement(getCurrentPath());
            current = nameOf(method);
            own.put(current, method);
            super.visitMethod(node, none);
            current = outside;
            return null;
        }

        @Override
        public Void visitMethodInvocation(MethodInvocationTree node, Void none) {
            Element called = trees.getElement(new TreePath(getCurrentPath(), node.getMethodSelect()));
            // Each constructor that is written out begins with a call of Object's that is not.
            if (!called.getSimpleName().contentEquals("<init>")) {
                calls.computeIfAbsent(current, c -> new TreeSet<>()).add(nameOf(called));
            }
            return super.visitMethodInvocation(node, none);
        }
    }

    private Set<String> calledBy(String method) {
        return calls.getOrDefault(method, Set.of());
    }

    private void libraryAlone() {
        for (Set<String> all : calls.values()) {
            for (String called : all) Due.is(called + " may be called", own.containsKey(called) || LIBRARY.contains(called), true);
        }
    }

    /** All that a method can come to by its calls. */
    private Set<String> reached(String method) {
        Set<String> found = new HashSet<>();
        List<String> left = new ArrayList<>(calledBy(method));
        while (!left.isEmpty()) {
            String next = left.remove(left.size() - 1);
            if (found.add(next)) left.addAll(calledBy(next));
        }
        return found;
    }

    private void recursionIsGuarded() {
        for (Map.Entry<String, ExecutableElement> method : own.entrySet()) {
            if (!reached(method.getKey()).contains(method.getKey())) continue;
            ExecutableElement e = method.getValue();
            Due.is(e + ", which can come to itself, is private", e.getModifiers().contains(Modifier.PRIVATE), true);
            Due.is(e + " carries its depth", e.getParameters().stream().anyMatch(p -> p.getSimpleName().contentEquals("depth")), true);
        }
    }

    private void callsStayFlat() {
        for (String method : own.keySet()) {
            int deep = depthFrom(method, new HashSet<>());
            Due.is(method + " goes " + deep + " calls deep, " + DEEPEST + " at most", deep <= DEEPEST, true);
        }
    }

    /** The longest chain of calls from a method on, in which methods that call one another count once together. */
    private int depthFrom(String method, Set<String> together) {
        together.add(method);
        int most = 0;
        for (String called : calledBy(method)) {
            boolean same = reached(called).contains(method);
            if (!same) most = Math.max(most, depthFrom(called, new HashSet<>()));
            else if (!together.contains(called)) most = Math.max(most, depthFrom(called, together) - 1);
        }
        return 1 + most;
    }
}
